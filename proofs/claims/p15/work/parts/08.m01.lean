-- X12_state
def FX12_state (a0 : Int32) (h : ph_H) : Int32 := if (h 13 (a0.toNatClampNeg)) = 0 then (0) else (if (h 12 (a0.toNatClampNeg)) = 24 then (4) else (if (h 14 (a0.toNatClampNeg)) < 0 then (if (FX12_canGo a0 h) = 0 then (2) else (1)) else (3)))
def PX12_state (a0 : Int32) (h : ph_H) : Prop := vp_in a0 4 ∧ (((h 13 (a0.toNatClampNeg)) = 0 → (True)) ∧ (¬ (h 13 (a0.toNatClampNeg)) = 0 → (vp_in a0 4 ∧ (((h 12 (a0.toNatClampNeg)) = 24 → (True)) ∧ (¬ (h 12 (a0.toNatClampNeg)) = 24 → (vp_in a0 4 ∧ (((h 14 (a0.toNatClampNeg)) < 0 → ((PX12_canGo a0 h) ∧ (((FX12_canGo a0 h) = 0 → (True)) ∧ (¬ (FX12_canGo a0 h) = 0 → (True))))) ∧ (¬ (h 14 (a0.toNatClampNeg)) < 0 → (True)))))))))
set_option maxRecDepth 100000 in
set_option maxHeartbeats 4000000 in
theorem tX12_state {X : fj_X} {Y : fj_Y} {l0 : Launch} {ad : Nat → Nat} (C : FC X Y l0 cX12_state 2 RX12 ({ frames := 3, cells := 0, slots := 0, locals := 67 } : Room) 0 0 (some .int)) (a0 : Int32) (h : ph_H) (hP : PX12_state a0 h) (hR : RETp X Y ad 50 SM h cX12_state (FX12_state a0 h)) : FJ X Y ad 50 SM h 0 [(0, .ref (ad 0)), (1, .int a0)] [] := by
  unfold PX12_state at hP
  unfold FX12_state at hR
  refine j_aload_n C dX12_state_0 rfl rfl ?_
  refine gM_46 C dX12_state_1 ?_
  refine j_iload_n C dX12_state_4 rfl rfl ?_
  obtain ⟨p3, hP⟩ := hP
  refine j_zald (k := 13) (v := (h 13 (a0.toNatClampNeg))) C dX12_state_5 (by decide) rfl p3 rfl ?_
  refine j_if_ne (tgt := 13) C dX12_state_6 (by decide) (fun c0 => ?_) (fun c0 => ?_)
  · have hP := hP.2 c0
    rw [if_neg c0] at hR
    refine j_aload_n C dX12_state_13 rfl rfl ?_
    refine gM_43 C dX12_state_14 ?_
    refine j_iload_n C dX12_state_17 rfl rfl ?_
    obtain ⟨p3, hP⟩ := hP
    refine j_iald (k := 12) (v := (h 12 (a0.toNatClampNeg))) C dX12_state_18 (by decide) rfl p3 rfl ?_
    refine j_bipush (v := 24) C dX12_state_19 (by decide) ?_
    refine j_icmp_ne (tgt := 28) C dX12_state_21 (by decide) (fun c1 => ?_) (fun c1 => ?_)
    · have hP := hP.2 c1
      rw [if_neg c1] at hR
      refine j_aload_n C dX12_state_28 rfl rfl ?_
      refine gM_50 C dX12_state_29 ?_
      refine j_iload_n C dX12_state_32 rfl rfl ?_
      obtain ⟨p3, hP⟩ := hP
      refine j_iald (k := 14) (v := (h 14 (a0.toNatClampNeg))) C dX12_state_33 (by decide) rfl p3 rfl ?_
      refine j_if_lt (tgt := 41) C dX12_state_34 (by decide) (fun c2 => ?_) (fun c2 => ?_)
      · have hP := hP.1 c2
        rw [if_pos c2] at hR
        refine j_aload_n C dX12_state_41 rfl rfl ?_
        refine j_iload_n C dX12_state_42 rfl rfl ?_
        obtain ⟨p2, hP⟩ := hP
        refine j_callV C (MX12_canGo a0 h p2) dX12_state_43 (CKX12_canGo (by decide)) ⟨rfl, rfl⟩ lk_RX12_215 in_X12_canGo se_X12_canGo (by decide) rfl rfl rfl (Nat.le_of_ble_eq_true rfl) ?_
        intro r S' h' hq
        obtain ⟨rfl, hh, rfl, hb4⟩ := hq
        rw [hh]
        refine j_if_eq (tgt := 53) C dX12_state_46 (by decide) (fun c3 => ?_) (fun c3 => ?_)
        · have hP := hP.1 c3
          rw [if_pos c3] at hR
          refine j_iconst (v := 2) C dX12_state_53 (by decide) ?_
          exact hR _ _ dX12_state_54
        · have hP := hP.2 c3
          rw [if_neg c3] at hR
          refine j_iconst (v := 1) C dX12_state_49 (by decide) ?_
          refine j_goto (tgt := 54) C dX12_state_50 (by decide) ?_
          exact hR _ _ dX12_state_54
      · have hP := hP.2 c2
        rw [if_neg c2] at hR
        refine j_iconst (v := 3) C dX12_state_37 (by decide) ?_
        refine j_goto (tgt := 54) C dX12_state_38 (by decide) ?_
        exact hR _ _ dX12_state_54
    · have hP := hP.1 c1
      rw [if_pos c1] at hR
      refine j_iconst (v := 4) C dX12_state_24 (by decide) ?_
      refine j_goto (tgt := 54) C dX12_state_25 (by decide) ?_
      exact hR _ _ dX12_state_54
  · have hP := hP.1 c0
    rw [if_pos c0] at hR
    refine j_iconst (v := 0) C dX12_state_9 (by decide) ?_
    refine j_goto (tgt := 54) C dX12_state_10 (by decide) ?_
    exact hR _ _ dX12_state_54
theorem MX12_state {l0 : Launch} {Y : fj_Y} {ad : Nat → Nat} (a0 : Int32) (h : ph_H) (hP : PX12_state a0 h) : MI l0 yX12_state cX12_state 2 (some .int) ({ frames := 3, cells := 0, slots := 0, locals := 67 } : Room) Y ad 50 SM h [.ref (ad 0), .int a0] (fun r S' h' => S' = SM ∧ h' = h ∧ r = FX12_state a0 h) := met_i (by decide) (Nat.le_of_ble_eq_true rfl) (fun _ _ _ _ => rfl) (fun X C K => j_vl (tX12_state C a0 h hP (fun pc lv hd => K _ _ _ ⟨rfl, rfl, rfl⟩ pc lv hd)) ⟨rfl, rfl, trivial⟩)

-- X12_goTo
def FX12_goTo_19  (s0 : Int32) (h : ph_H) : ph_H := (hs h 12 s0.toNatClampNeg 24)
def PX12_goTo_19  (s0 : Int32) (h : ph_H) : Prop := vp_in s0 4 ∧ (True)
set_option maxRecDepth 100000 in
set_option maxHeartbeats 4000000 in
theorem tX12_goTo_19 {X : fj_X} {Y : fj_Y} {l0 : Launch} {ad : Nat → Nat} (C : FC X Y l0 cX12_goTo 3 RX12 ({ frames := 0, cells := 0, slots := 0, locals := 0 } : Room) 0 0 none) (s0 : Int32) (h : ph_H) (hP : PX12_goTo_19  s0 h) (hR : RETv X Y ad 50 SM cX12_goTo (FX12_goTo_19  s0 h)) : FJ X Y ad 50 SM h 19 [] [.int s0, .ref (ad 12)] := by
  unfold PX12_goTo_19 at hP
  unfold FX12_goTo_19 at hR
  refine j_bipush (v := 24) C dX12_goTo_19 (by decide) ?_
  refine j_goto (tgt := 25) C dX12_goTo_21 (by decide) ?_
  obtain ⟨p2, hP⟩ := hP
  refine j_iast (k := 12) C dX12_goTo_25 (by decide) rfl p2 ?_
  exact hR _ _ dX12_goTo_26
def FX12_goTo (a0 : Int32) (a1 : Int32) (h : ph_H) : ph_H := if a1 < 0 then (FX12_goTo_19  a0 h) else (if a1 < (h 1 (a0.toNatClampNeg)) then ((hs h 12 a0.toNatClampNeg a1)) else (FX12_goTo_19  a0 h))
def PX12_goTo (a0 : Int32) (a1 : Int32) (h : ph_H) : Prop := (a1 < 0 → (PX12_goTo_19  a0 h)) ∧ (¬ a1 < 0 → (vp_in a0 4 ∧ ((a1 < (h 1 (a0.toNatClampNeg)) → (vp_in a0 4 ∧ (True))) ∧ (¬ a1 < (h 1 (a0.toNatClampNeg)) → (PX12_goTo_19  a0 h)))))
set_option maxRecDepth 100000 in
set_option maxHeartbeats 4000000 in
theorem tX12_goTo {X : fj_X} {Y : fj_Y} {l0 : Launch} {ad : Nat → Nat} (C : FC X Y l0 cX12_goTo 3 RX12 ({ frames := 0, cells := 0, slots := 0, locals := 0 } : Room) 0 0 none) (a0 : Int32) (a1 : Int32) (h : ph_H) (hP : PX12_goTo a0 a1 h) (hR : RETv X Y ad 50 SM cX12_goTo (FX12_goTo a0 a1 h)) : FJ X Y ad 50 SM h 0 [(0, .ref (ad 0)), (1, .int a0), (2, .int a1)] [] := by
  unfold PX12_goTo at hP
  unfold FX12_goTo at hR
  refine j_aload_n C dX12_goTo_0 rfl rfl ?_
  refine gM_43 C dX12_goTo_1 ?_
  refine j_iload_n C dX12_goTo_4 rfl rfl ?_
  refine j_iload_n C dX12_goTo_5 rfl rfl ?_
  refine j_if_lt (tgt := 19) C dX12_goTo_6 (by decide) (fun c0 => ?_) (fun c0 => ?_)
  · have hP := hP.1 c0
    rw [if_pos c0] at hR
    exact j_vl (tX12_goTo_19 C  a0 h hP hR) trivial
  · have hP := hP.2 c0
    rw [if_neg c0] at hR
    refine j_iload_n C dX12_goTo_9 rfl rfl ?_
    refine j_aload_n C dX12_goTo_10 rfl rfl ?_
    refine gM_7 C dX12_goTo_11 ?_
    refine j_iload_n C dX12_goTo_14 rfl rfl ?_
    obtain ⟨p4, hP⟩ := hP
    refine j_iald (k := 1) (v := (h 1 (a0.toNatClampNeg))) C dX12_goTo_15 (by decide) rfl p4 rfl ?_
    refine j_icmp_lt (tgt := 24) C dX12_goTo_16 (by decide) (fun c1 => ?_) (fun c1 => ?_)
    · have hP := hP.1 c1
      rw [if_pos c1] at hR
      refine j_iload_n C dX12_goTo_24 rfl rfl ?_
      obtain ⟨p1, hP⟩ := hP
      refine j_iast (k := 12) C dX12_goTo_25 (by decide) rfl p1 ?_
      exact hR _ _ dX12_goTo_26
    · have hP := hP.2 c1
      rw [if_neg c1] at hR
      exact j_vl (tX12_goTo_19 C  a0 h hP hR) trivial
theorem MX12_goTo {l0 : Launch} {Y : fj_Y} {ad : Nat → Nat} (a0 : Int32) (a1 : Int32) (h : ph_H) (hP : PX12_goTo a0 a1 h) : MV l0 yX12_goTo cX12_goTo 3 ({ frames := 0, cells := 0, slots := 0, locals := 0 } : Room) Y ad 50 SM h [.ref (ad 0), .int a0, .int a1] (fun S' h' => S' = SM ∧ h' = FX12_goTo a0 a1 h) := met_v (by decide) (Nat.le_of_ble_eq_true rfl) (fun X C K => j_vl (tX12_goTo C a0 a1 h hP (fun pc lv hd => K _ _ ⟨rfl, rfl⟩ pc lv hd)) ⟨rfl, rfl, rfl, trivial⟩)

-- X12_set
def FX12_set (a0 : Int32) (a1 : Int32) (a2 : Int32) (h : ph_H) : ph_H := (hs (hs h 10 a0.toNatClampNeg a1) 11 a0.toNatClampNeg a2)
def PX12_set (a0 : Int32) (a1 : Int32) (a2 : Int32) (h : ph_H) : Prop := vp_in a0 28 ∧ (vp_in a0 28 ∧ (True))
set_option maxRecDepth 100000 in
set_option maxHeartbeats 4000000 in
theorem tX12_set {X : fj_X} {Y : fj_Y} {l0 : Launch} {ad : Nat → Nat} (C : FC X Y l0 cX12_set 4 RX12 ({ frames := 0, cells := 0, slots := 0, locals := 0 } : Room) 0 0 none) (a0 : Int32) (a1 : Int32) (a2 : Int32) (h : ph_H) (hP : PX12_set a0 a1 a2 h) (hR : RETv X Y ad 50 SM cX12_set (FX12_set a0 a1 a2 h)) : FJ X Y ad 50 SM h 0 [(0, .ref (ad 0)), (1, .int a0), (2, .int a1), (3, .int a2)] [] := by
  unfold PX12_set at hP
  unfold FX12_set at hR
  refine j_aload_n C dX12_set_0 rfl rfl ?_
  refine gM_37 C dX12_set_1 ?_
  refine j_iload_n C dX12_set_4 rfl rfl ?_
  refine j_iload_n C dX12_set_5 rfl rfl ?_
  obtain ⟨p4, hP⟩ := hP
  refine j_iast (k := 10) C dX12_set_6 (by decide) rfl p4 ?_
  refine j_aload_n C dX12_set_7 rfl rfl ?_
  refine gM_40 C dX12_set_8 ?_
  refine j_iload_n C dX12_set_11 rfl rfl ?_
  refine j_iload_n C dX12_set_12 rfl rfl ?_
  obtain ⟨p10, hP⟩ := hP
  refine j_iast (k := 11) C dX12_set_13 (by decide) rfl p10 ?_
  exact hR _ _ dX12_set_14
theorem MX12_set {l0 : Launch} {Y : fj_Y} {ad : Nat → Nat} (a0 : Int32) (a1 : Int32) (a2 : Int32) (h : ph_H) (hP : PX12_set a0 a1 a2 h) : MV l0 yX12_set cX12_set 4 ({ frames := 0, cells := 0, slots := 0, locals := 0 } : Room) Y ad 50 SM h [.ref (ad 0), .int a0, .int a1, .int a2] (fun S' h' => S' = SM ∧ h' = FX12_set a0 a1 a2 h) := met_v (by decide) (Nat.le_of_ble_eq_true rfl) (fun X C K => j_vl (tX12_set C a0 a1 a2 h hP (fun pc lv hd => K _ _ ⟨rfl, rfl⟩ pc lv hd)) ⟨rfl, rfl, rfl, rfl, trivial⟩)

-- X12_newThing
def FX12_newThing_29  : Nat → Int32 → Int32 → ph_H → Int32 × ph_H
  | 0, _, _, h => (0, h)
  | q + 1, x3, x4, h => if 16 ≤ x4 then ((x3, (hs h 0 18 ((h 0 18) + 1)))) else (FX12_newThing_29  q x3 (x4 + 1) (hs h 19 ((16 * x3) + x4).toNatClampNeg 0))
def PX12_newThing_29  : Nat → Int32 → Int32 → ph_H → Prop
  | 0, _, _, _ => False
  | q + 1, x3, x4, h => (16 ≤ x4 → (True)) ∧ (¬ 16 ≤ x4 → (vp_in ((16 * x3) + x4) 192 ∧ (PX12_newThing_29  q x3 (x4 + 1) (hs h 19 ((16 * x3) + x4).toNatClampNeg 0))))
set_option maxRecDepth 100000 in
set_option maxHeartbeats 4000000 in
theorem tX12_newThing_29 {X : fj_X} {Y : fj_Y} {l0 : Launch} {ad : Nat → Nat} (C : FC X Y l0 cX12_newThing 5 RX12 ({ frames := 0, cells := 0, slots := 0, locals := 0 } : Room) 0 0 (some .int)) : ∀ (q : Nat) (x3 : Int32) (x4 : Int32) (h : ph_H), PX12_newThing_29  q x3 x4 h → RETi X Y ad 50 SM cX12_newThing (FX12_newThing_29  q x3 x4 h) → FJ X Y ad 50 SM h 29 [(0, .ref (ad 0)), (3, .int x3), (4, .int x4)] [] := by
  intro q
  induction q with
  | zero =>
    intro x3 x4 h hP hR
    exact absurd hP id
  | succ q ih =>
    intro x3 x4 h hP hR
    unfold PX12_newThing_29 at hP
    unfold FX12_newThing_29 at hR
    refine j_iload C dX12_newThing_29 rfl ?_
    refine j_bipush (v := 16) C dX12_newThing_31 (by decide) ?_
    refine j_icmp_ge (tgt := 55) C dX12_newThing_33 (by decide) (fun c0 => ?_) (fun c0 => ?_)
    · have hP := hP.1 c0
      rw [if_pos c0] at hR
      refine j_aload_n C dX12_newThing_55 rfl rfl ?_
      refine j_dup C dX12_newThing_56 rfl ?_
      refine gM_185 (v := (h 0 18)) C dX12_newThing_57 rfl ?_
      refine j_iconst (v := 1) C dX12_newThing_60 (by decide) ?_
      refine j_iadd C dX12_newThing_61 ?_
      refine pM_185 C dX12_newThing_62 ?_
      refine j_iload_n C dX12_newThing_65 rfl rfl ?_
      exact hR _ _ dX12_newThing_66
    · have hP := hP.2 c0
      rw [if_neg c0] at hR
      refine j_aload_n C dX12_newThing_36 rfl rfl ?_
      refine gM_65 C dX12_newThing_37 ?_
      refine j_bipush (v := 16) C dX12_newThing_40 (by decide) ?_
      refine j_iload_n C dX12_newThing_42 rfl rfl ?_
      refine j_imul C dX12_newThing_43 ?_
      refine j_iload C dX12_newThing_44 rfl ?_
      refine j_iadd C dX12_newThing_46 ?_
      refine j_iconst (v := 0) C dX12_newThing_47 (by decide) ?_
      obtain ⟨p8, hP⟩ := hP
      refine j_iast (k := 19) C dX12_newThing_48 (by decide) rfl p8 ?_
      refine j_iinc (v := (x4 + 1)) C dX12_newThing_49 rfl rfl (by decide) rfl ?_
      refine j_goto (tgt := 29) C dX12_newThing_52 (by decide) ?_
      exact j_vl (ih x3 (x4 + 1) (hs h 19 ((16 * x3) + x4).toNatClampNeg 0) hP hR) ⟨rfl, rfl, rfl, trivial⟩
def FX12_newThing (a0 : Int32) (a1 : Int32) (h : ph_H) : Int32 × ph_H := FX12_newThing_29 2000 (h 0 18) 0 (hs (hs (hs h 16 (h 0 18).toNatClampNeg a0) 17 (h 0 18).toNatClampNeg (-1)) 18 (h 0 18).toNatClampNeg a1)
def PX12_newThing (a0 : Int32) (a1 : Int32) (h : ph_H) : Prop := vp_in (h 0 18) 12 ∧ (vp_in (h 0 18) 12 ∧ (vp_in (h 0 18) 12 ∧ (PX12_newThing_29 2000 (h 0 18) 0 (hs (hs (hs h 16 (h 0 18).toNatClampNeg a0) 17 (h 0 18).toNatClampNeg (-1)) 18 (h 0 18).toNatClampNeg a1))))
set_option maxRecDepth 100000 in
set_option maxHeartbeats 4000000 in
theorem tX12_newThing {X : fj_X} {Y : fj_Y} {l0 : Launch} {ad : Nat → Nat} (C : FC X Y l0 cX12_newThing 5 RX12 ({ frames := 0, cells := 0, slots := 0, locals := 0 } : Room) 0 0 (some .int)) (a0 : Int32) (a1 : Int32) (h : ph_H) (hP : PX12_newThing a0 a1 h) (hR : RETi X Y ad 50 SM cX12_newThing (FX12_newThing a0 a1 h)) : FJ X Y ad 50 SM h 0 [(0, .ref (ad 0)), (1, .int a0), (2, .int a1)] [] := by
  unfold PX12_newThing at hP
  unfold FX12_newThing at hR
  refine j_aload_n C dX12_newThing_0 rfl rfl ?_
  refine gM_185 (v := (h 0 18)) C dX12_newThing_1 rfl ?_
  refine j_istore_n C dX12_newThing_4 rfl (by decide) rfl ?_
  refine j_aload_n C dX12_newThing_5 rfl rfl ?_
  refine gM_56 C dX12_newThing_6 ?_
  refine j_iload_n C dX12_newThing_9 rfl rfl ?_
  refine j_iload_n C dX12_newThing_10 rfl rfl ?_
  obtain ⟨p7, hP⟩ := hP
  refine j_iast (k := 16) C dX12_newThing_11 (by decide) rfl p7 ?_
  refine j_aload_n C dX12_newThing_12 rfl rfl ?_
  refine gM_59 C dX12_newThing_13 ?_
  refine j_iload_n C dX12_newThing_16 rfl rfl ?_
  refine j_iconst (v := (-1)) C dX12_newThing_17 (by decide) ?_
  obtain ⟨p13, hP⟩ := hP
  refine j_iast (k := 17) C dX12_newThing_18 (by decide) rfl p13 ?_
  refine j_aload_n C dX12_newThing_19 rfl rfl ?_
  refine gM_62 C dX12_newThing_20 ?_
  refine j_iload_n C dX12_newThing_23 rfl rfl ?_
  refine j_iload_n C dX12_newThing_24 rfl rfl ?_
  obtain ⟨p19, hP⟩ := hP
  refine j_iast (k := 18) C dX12_newThing_25 (by decide) rfl p19 ?_
  refine j_iconst (v := 0) C dX12_newThing_26 (by decide) ?_
  refine j_istore C dX12_newThing_27 (by decide) rfl ?_
  exact j_vl (tX12_newThing_29 C 2000 (h 0 18) 0 (hs (hs (hs h 16 (h 0 18).toNatClampNeg a0) 17 (h 0 18).toNatClampNeg (-1)) 18 (h 0 18).toNatClampNeg a1) hP hR) ⟨rfl, rfl, rfl, trivial⟩
theorem MX12_newThing {l0 : Launch} {Y : fj_Y} {ad : Nat → Nat} (a0 : Int32) (a1 : Int32) (h : ph_H) (hP : PX12_newThing a0 a1 h) : MI l0 yX12_newThing cX12_newThing 5 (some .int) ({ frames := 0, cells := 0, slots := 0, locals := 0 } : Room) Y ad 50 SM h [.ref (ad 0), .int a0, .int a1] (fun r S' h' => S' = SM ∧ h' = (FX12_newThing a0 a1 h).2 ∧ r = (FX12_newThing a0 a1 h).1) := met_i (by decide) (Nat.le_of_ble_eq_true rfl) (fun _ _ _ _ => rfl) (fun X C K => j_vl (tX12_newThing C a0 a1 h hP (fun pc lv hd => K _ _ _ ⟨rfl, rfl, rfl⟩ pc lv hd)) ⟨rfl, rfl, rfl, trivial⟩)

-- X12_why
def FX12_why_99  (h : ph_H) : Int32 := 1
def PX12_why_99  (h : ph_H) : Prop := True
set_option maxRecDepth 100000 in
set_option maxHeartbeats 4000000 in
theorem tX12_why_99 {X : fj_X} {Y : fj_Y} {l0 : Launch} {ad : Nat → Nat} (C : FC X Y l0 cX12_why 7 RX12 ({ frames := 1, cells := 0, slots := 0, locals := 25 } : Room) 0 0 (some .int)) (h : ph_H)  (hP : PX12_why_99  h) (hR : RETp X Y ad 50 SM h cX12_why (FX12_why_99  h)) : FJ X Y ad 50 SM h 99 [] [] := by
  unfold PX12_why_99 at hP
  unfold FX12_why_99 at hR
  refine j_iconst (v := 1) C dX12_why_99 (by decide) ?_
  refine j_goto (tgt := 104) C dX12_why_100 (by decide) ?_
  exact hR _ _ dX12_why_104
def FX12_why_169  (h : ph_H) : Int32 := 3
def PX12_why_169  (h : ph_H) : Prop := True
set_option maxRecDepth 100000 in
set_option maxHeartbeats 4000000 in
theorem tX12_why_169 {X : fj_X} {Y : fj_Y} {l0 : Launch} {ad : Nat → Nat} (C : FC X Y l0 cX12_why 7 RX12 ({ frames := 1, cells := 0, slots := 0, locals := 25 } : Room) 0 0 (some .int)) (h : ph_H)  (hP : PX12_why_169  h) (hR : RETp X Y ad 50 SM h cX12_why (FX12_why_169  h)) : FJ X Y ad 50 SM h 169 [] [] := by
  unfold PX12_why_169 at hP
  unfold FX12_why_169 at hR
  refine j_iconst (v := 3) C dX12_why_169 (by decide) ?_
  refine j_goto (tgt := 174) C dX12_why_170 (by decide) ?_
  exact hR _ _ dX12_why_174
def FX12_why_196  (h : ph_H) : Int32 := 1
def PX12_why_196  (h : ph_H) : Prop := True
set_option maxRecDepth 100000 in
set_option maxHeartbeats 4000000 in
theorem tX12_why_196 {X : fj_X} {Y : fj_Y} {l0 : Launch} {ad : Nat → Nat} (C : FC X Y l0 cX12_why 7 RX12 ({ frames := 1, cells := 0, slots := 0, locals := 25 } : Room) 0 0 (some .int)) (h : ph_H)  (hP : PX12_why_196  h) (hR : RETp X Y ad 50 SM h cX12_why (FX12_why_196  h)) : FJ X Y ad 50 SM h 196 [] [] := by
  unfold PX12_why_196 at hP
  unfold FX12_why_196 at hR
  refine j_iconst (v := 1) C dX12_why_196 (by decide) ?_
  refine j_goto (tgt := 235) C dX12_why_197 (by decide) ?_
  exact hR _ _ dX12_why_235
def FX12_why_266  (h : ph_H) : Int32 := 1
def PX12_why_266  (h : ph_H) : Prop := True
set_option maxRecDepth 100000 in
set_option maxHeartbeats 4000000 in
theorem tX12_why_266 {X : fj_X} {Y : fj_Y} {l0 : Launch} {ad : Nat → Nat} (C : FC X Y l0 cX12_why 7 RX12 ({ frames := 1, cells := 0, slots := 0, locals := 25 } : Room) 0 0 (some .int)) (h : ph_H)  (hP : PX12_why_266  h) (hR : RETp X Y ad 50 SM h cX12_why (FX12_why_266  h)) : FJ X Y ad 50 SM h 266 [] [] := by
  unfold PX12_why_266 at hP
  unfold FX12_why_266 at hR
  refine j_iconst (v := 1) C dX12_why_266 (by decide) ?_
  refine j_goto (tgt := 304) C dX12_why_267 (by decide) ?_
  exact hR _ _ dX12_why_304
def FX12_why (a0 : Int32) (a1 : Int32) (a2 : Int32) (a3 : Int32) (a4 : Int32) (a5 : Int32) (h : ph_H) : Int32 := if a1 = 3 then (if (h 10 (a2.toNatClampNeg)) = 0 then (if (h 10 (a3.toNatClampNeg)) = 0 then (0) else (FX12_why_99  h)) else (FX12_why_99  h)) else (if a1 = 4 then (if (h 10 (a2.toNatClampNeg)) = 0 then (if (h 10 (a3.toNatClampNeg)) = 0 then (0) else (FX12_why_99  h)) else (FX12_why_99  h)) else (if a1 = 5 then (if (h 10 (a2.toNatClampNeg)) = 0 then (if (h 10 (a3.toNatClampNeg)) = 0 then (0) else (FX12_why_99  h)) else (FX12_why_99  h)) else (if a1 = 6 then (0) else (if a1 = 7 then (if (h 10 (a2.toNatClampNeg)) = 0 then (0) else (1)) else (if a1 = 8 then (if (h 10 (a3.toNatClampNeg)) = 0 then (if 0 ≤ (h 11 (a3.toNatClampNeg)) then (if 16 < (h 11 (a3.toNatClampNeg)) then (FX12_why_169  h) else (if (h 0 18) = 12 then (FX12_why_169  h) else (0))) else (2)) else (1)) else (if a1 = 9 then (if (h 10 (a3.toNatClampNeg)) = 1 then (if (h 10 (a4.toNatClampNeg)) = 0 then (if (FX12_isIn ((h 11 (a4.toNatClampNeg)).toInt64) 0 (((h 18 ((h 11 (a3.toNatClampNeg)).toNatClampNeg)) - 1).toInt64)) = 0 then (4) else (0)) else (FX12_why_196  h)) else (FX12_why_196  h)) else (if a1 = 10 then (if (h 10 (a2.toNatClampNeg)) = 1 then (if (h 10 (a3.toNatClampNeg)) = 0 then (if (h 10 (a4.toNatClampNeg)) = 0 then (if (FX12_isIn ((h 11 (a3.toNatClampNeg)).toInt64) 0 (((h 18 ((h 11 (a2.toNatClampNeg)).toNatClampNeg)) - 1).toInt64)) = 0 then (4) else (0)) else (FX12_why_266  h)) else (FX12_why_266  h)) else (FX12_why_266  h)) else (if a1 = 11 then (if (h 0 18) = 12 then (3) else (0)) else (if a1 = 12 then (if (FX12_isLock a2 h) = 0 then (1) else (if (h 17 ((h 11 (a2.toNatClampNeg)).toNatClampNeg)) = a0 then (5) else (0))) else (if a1 = 13 then (if (FX12_isLock a2 h) = 0 then (1) else (if (h 17 ((h 11 (a2.toNatClampNeg)).toNatClampNeg)) = a0 then (0) else (6))) else (if a1 = 14 then (if (h 10 (a2.toNatClampNeg)) = 3 then (if (h 17 ((h 11 (a2.toNatClampNeg)).toNatClampNeg)) = a0 then (0) else (6)) else (1)) else (if a1 = 15 then (if (h 10 (a2.toNatClampNeg)) = 3 then (if (h 17 ((h 11 (a2.toNatClampNeg)).toNatClampNeg)) = a0 then (0) else (6)) else (1)) else (if a1 = 16 then (if (h 0 33) = 0 then (if (h 0 23) = (h 0 7) then (7) else (0)) else (0)) else (if a1 = 17 then (0) else (if a1 = 18 then ((10 + (FX12_modulo a5 10))) else (0))))))))))))))))
def PX12_why (a0 : Int32) (a1 : Int32) (a2 : Int32) (a3 : Int32) (a4 : Int32) (a5 : Int32) (h : ph_H) : Prop := (a1 = 3 → (vp_in a2 28 ∧ (((h 10 (a2.toNatClampNeg)) = 0 → (vp_in a3 28 ∧ (((h 10 (a3.toNatClampNeg)) = 0 → (True)) ∧ (¬ (h 10 (a3.toNatClampNeg)) = 0 → (PX12_why_99  h))))) ∧ (¬ (h 10 (a2.toNatClampNeg)) = 0 → (PX12_why_99  h))))) ∧ (¬ a1 = 3 → ((a1 = 4 → (vp_in a2 28 ∧ (((h 10 (a2.toNatClampNeg)) = 0 → (vp_in a3 28 ∧ (((h 10 (a3.toNatClampNeg)) = 0 → (True)) ∧ (¬ (h 10 (a3.toNatClampNeg)) = 0 → (PX12_why_99  h))))) ∧ (¬ (h 10 (a2.toNatClampNeg)) = 0 → (PX12_why_99  h))))) ∧ (¬ a1 = 4 → ((a1 = 5 → (vp_in a2 28 ∧ (((h 10 (a2.toNatClampNeg)) = 0 → (vp_in a3 28 ∧ (((h 10 (a3.toNatClampNeg)) = 0 → (True)) ∧ (¬ (h 10 (a3.toNatClampNeg)) = 0 → (PX12_why_99  h))))) ∧ (¬ (h 10 (a2.toNatClampNeg)) = 0 → (PX12_why_99  h))))) ∧ (¬ a1 = 5 → ((a1 = 6 → (True)) ∧ (¬ a1 = 6 → ((a1 = 7 → (vp_in a2 28 ∧ (((h 10 (a2.toNatClampNeg)) = 0 → (True)) ∧ (¬ (h 10 (a2.toNatClampNeg)) = 0 → (True))))) ∧ (¬ a1 = 7 → ((a1 = 8 → (vp_in a3 28 ∧ (((h 10 (a3.toNatClampNeg)) = 0 → (vp_in a3 28 ∧ ((0 ≤ (h 11 (a3.toNatClampNeg)) → (vp_in a3 28 ∧ ((16 < (h 11 (a3.toNatClampNeg)) → (PX12_why_169  h)) ∧ (¬ 16 < (h 11 (a3.toNatClampNeg)) → (((h 0 18) = 12 → (PX12_why_169  h)) ∧ (¬ (h 0 18) = 12 → (True))))))) ∧ (¬ 0 ≤ (h 11 (a3.toNatClampNeg)) → (True))))) ∧ (¬ (h 10 (a3.toNatClampNeg)) = 0 → (True))))) ∧ (¬ a1 = 8 → ((a1 = 9 → (vp_in a3 28 ∧ (((h 10 (a3.toNatClampNeg)) = 1 → (vp_in a4 28 ∧ (((h 10 (a4.toNatClampNeg)) = 0 → (vp_in a4 28 ∧ (vp_in a3 28 ∧ (vp_in (h 11 (a3.toNatClampNeg)) 12 ∧ ((PX12_isIn ((h 11 (a4.toNatClampNeg)).toInt64) 0 (((h 18 ((h 11 (a3.toNatClampNeg)).toNatClampNeg)) - 1).toInt64)) ∧ (((FX12_isIn ((h 11 (a4.toNatClampNeg)).toInt64) 0 (((h 18 ((h 11 (a3.toNatClampNeg)).toNatClampNeg)) - 1).toInt64)) = 0 → (True)) ∧ (¬ (FX12_isIn ((h 11 (a4.toNatClampNeg)).toInt64) 0 (((h 18 ((h 11 (a3.toNatClampNeg)).toNatClampNeg)) - 1).toInt64)) = 0 → (True)))))))) ∧ (¬ (h 10 (a4.toNatClampNeg)) = 0 → (PX12_why_196  h))))) ∧ (¬ (h 10 (a3.toNatClampNeg)) = 1 → (PX12_why_196  h))))) ∧ (¬ a1 = 9 → ((a1 = 10 → (vp_in a2 28 ∧ (((h 10 (a2.toNatClampNeg)) = 1 → (vp_in a3 28 ∧ (((h 10 (a3.toNatClampNeg)) = 0 → (vp_in a4 28 ∧ (((h 10 (a4.toNatClampNeg)) = 0 → (vp_in a3 28 ∧ (vp_in a2 28 ∧ (vp_in (h 11 (a2.toNatClampNeg)) 12 ∧ ((PX12_isIn ((h 11 (a3.toNatClampNeg)).toInt64) 0 (((h 18 ((h 11 (a2.toNatClampNeg)).toNatClampNeg)) - 1).toInt64)) ∧ (((FX12_isIn ((h 11 (a3.toNatClampNeg)).toInt64) 0 (((h 18 ((h 11 (a2.toNatClampNeg)).toNatClampNeg)) - 1).toInt64)) = 0 → (True)) ∧ (¬ (FX12_isIn ((h 11 (a3.toNatClampNeg)).toInt64) 0 (((h 18 ((h 11 (a2.toNatClampNeg)).toNatClampNeg)) - 1).toInt64)) = 0 → (True)))))))) ∧ (¬ (h 10 (a4.toNatClampNeg)) = 0 → (PX12_why_266  h))))) ∧ (¬ (h 10 (a3.toNatClampNeg)) = 0 → (PX12_why_266  h))))) ∧ (¬ (h 10 (a2.toNatClampNeg)) = 1 → (PX12_why_266  h))))) ∧ (¬ a1 = 10 → ((a1 = 11 → (((h 0 18) = 12 → (True)) ∧ (¬ (h 0 18) = 12 → (True)))) ∧ (¬ a1 = 11 → ((a1 = 12 → ((PX12_isLock a2 h) ∧ (((FX12_isLock a2 h) = 0 → (True)) ∧ (¬ (FX12_isLock a2 h) = 0 → (vp_in a2 28 ∧ (vp_in (h 11 (a2.toNatClampNeg)) 12 ∧ (((h 17 ((h 11 (a2.toNatClampNeg)).toNatClampNeg)) = a0 → (True)) ∧ (¬ (h 17 ((h 11 (a2.toNatClampNeg)).toNatClampNeg)) = a0 → (True))))))))) ∧ (¬ a1 = 12 → ((a1 = 13 → ((PX12_isLock a2 h) ∧ (((FX12_isLock a2 h) = 0 → (True)) ∧ (¬ (FX12_isLock a2 h) = 0 → (vp_in a2 28 ∧ (vp_in (h 11 (a2.toNatClampNeg)) 12 ∧ (((h 17 ((h 11 (a2.toNatClampNeg)).toNatClampNeg)) = a0 → (True)) ∧ (¬ (h 17 ((h 11 (a2.toNatClampNeg)).toNatClampNeg)) = a0 → (True))))))))) ∧ (¬ a1 = 13 → ((a1 = 14 → (vp_in a2 28 ∧ (((h 10 (a2.toNatClampNeg)) = 3 → (vp_in a2 28 ∧ (vp_in (h 11 (a2.toNatClampNeg)) 12 ∧ (((h 17 ((h 11 (a2.toNatClampNeg)).toNatClampNeg)) = a0 → (True)) ∧ (¬ (h 17 ((h 11 (a2.toNatClampNeg)).toNatClampNeg)) = a0 → (True)))))) ∧ (¬ (h 10 (a2.toNatClampNeg)) = 3 → (True))))) ∧ (¬ a1 = 14 → ((a1 = 15 → (vp_in a2 28 ∧ (((h 10 (a2.toNatClampNeg)) = 3 → (vp_in a2 28 ∧ (vp_in (h 11 (a2.toNatClampNeg)) 12 ∧ (((h 17 ((h 11 (a2.toNatClampNeg)).toNatClampNeg)) = a0 → (True)) ∧ (¬ (h 17 ((h 11 (a2.toNatClampNeg)).toNatClampNeg)) = a0 → (True)))))) ∧ (¬ (h 10 (a2.toNatClampNeg)) = 3 → (True))))) ∧ (¬ a1 = 15 → ((a1 = 16 → (((h 0 33) = 0 → (((h 0 23) = (h 0 7) → (True)) ∧ (¬ (h 0 23) = (h 0 7) → (True)))) ∧ (¬ (h 0 33) = 0 → (True)))) ∧ (¬ a1 = 16 → ((a1 = 17 → (True)) ∧ (¬ a1 = 17 → ((a1 = 18 → ((PX12_modulo a5 10) ∧ (True))) ∧ (¬ a1 = 18 → (True))))))))))))))))))))))))))))))))
set_option maxRecDepth 100000 in
set_option maxHeartbeats 4000000 in
theorem tX12_why {X : fj_X} {Y : fj_Y} {l0 : Launch} {ad : Nat → Nat} (C : FC X Y l0 cX12_why 7 RX12 ({ frames := 1, cells := 0, slots := 0, locals := 25 } : Room) 0 0 (some .int)) (a0 : Int32) (a1 : Int32) (a2 : Int32) (a3 : Int32) (a4 : Int32) (a5 : Int32) (h : ph_H) (hP : PX12_why a0 a1 a2 a3 a4 a5 h) (hR : RETp X Y ad 50 SM h cX12_why (FX12_why a0 a1 a2 a3 a4 a5 h)) : FJ X Y ad 50 SM h 0 [(0, .ref (ad 0)), (1, .int a0), (2, .int a1), (3, .int a2), (4, .int a3), (5, .int a4), (6, .int a5)] [] := by
  unfold PX12_why at hP
  unfold FX12_why at hR
  refine j_iload_n C dX12_why_0 rfl rfl ?_
  rcases Classical.em (a1 = 3) with c0 | c0
  · have hP := hP.1 c0
    rw [if_pos c0] at hR
    refine j_tableIn (tgt := 80) (off := 79) C dX12_why_1 (by rw [c0]; decide) (by rw [c0]; decide) (by rw [c0]; decide) (by decide) ?_
    refine j_aload_n C dX12_why_80 rfl rfl ?_
    refine gM_37 C dX12_why_81 ?_
    refine j_iload_n C dX12_why_84 rfl rfl ?_
    obtain ⟨p3, hP⟩ := hP
    refine j_iald (k := 10) (v := (h 10 (a2.toNatClampNeg))) C dX12_why_85 (by decide) rfl p3 rfl ?_
    refine j_if_ne (tgt := 99) C dX12_why_86 (by decide) (fun c1 => ?_) (fun c1 => ?_)
    · have hP := hP.2 c1
      rw [if_neg c1] at hR
      exact j_vl (tX12_why_99 C h  hP hR) trivial
    · have hP := hP.1 c1
      rw [if_pos c1] at hR
      refine j_aload_n C dX12_why_89 rfl rfl ?_
      refine gM_37 C dX12_why_90 ?_
      refine j_iload C dX12_why_93 rfl ?_
      obtain ⟨p3, hP⟩ := hP
      refine j_iald (k := 10) (v := (h 10 (a3.toNatClampNeg))) C dX12_why_95 (by decide) rfl p3 rfl ?_
      refine j_if_eq (tgt := 103) C dX12_why_96 (by decide) (fun c2 => ?_) (fun c2 => ?_)
      · have hP := hP.1 c2
        rw [if_pos c2] at hR
        refine j_iconst (v := 0) C dX12_why_103 (by decide) ?_
        exact hR _ _ dX12_why_104
      · have hP := hP.2 c2
        rw [if_neg c2] at hR
        exact j_vl (tX12_why_99 C h  hP hR) trivial
  have hP := hP.2 c0
  rw [if_neg c0] at hR
  rcases Classical.em (a1 = 4) with c1 | c1
  · have hP := hP.1 c1
    rw [if_pos c1] at hR
    refine j_tableIn (tgt := 80) (off := 79) C dX12_why_1 (by rw [c1]; decide) (by rw [c1]; decide) (by rw [c1]; decide) (by decide) ?_
    refine j_aload_n C dX12_why_80 rfl rfl ?_
    refine gM_37 C dX12_why_81 ?_
    refine j_iload_n C dX12_why_84 rfl rfl ?_
    obtain ⟨p3, hP⟩ := hP
    refine j_iald (k := 10) (v := (h 10 (a2.toNatClampNeg))) C dX12_why_85 (by decide) rfl p3 rfl ?_
    refine j_if_ne (tgt := 99) C dX12_why_86 (by decide) (fun c2 => ?_) (fun c2 => ?_)
    · have hP := hP.2 c2
      rw [if_neg c2] at hR
      exact j_vl (tX12_why_99 C h  hP hR) trivial
    · have hP := hP.1 c2
      rw [if_pos c2] at hR
      refine j_aload_n C dX12_why_89 rfl rfl ?_
      refine gM_37 C dX12_why_90 ?_
      refine j_iload C dX12_why_93 rfl ?_
      obtain ⟨p3, hP⟩ := hP
      refine j_iald (k := 10) (v := (h 10 (a3.toNatClampNeg))) C dX12_why_95 (by decide) rfl p3 rfl ?_
      refine j_if_eq (tgt := 103) C dX12_why_96 (by decide) (fun c3 => ?_) (fun c3 => ?_)
      · have hP := hP.1 c3
        rw [if_pos c3] at hR
        refine j_iconst (v := 0) C dX12_why_103 (by decide) ?_
        exact hR _ _ dX12_why_104
      · have hP := hP.2 c3
        rw [if_neg c3] at hR
        exact j_vl (tX12_why_99 C h  hP hR) trivial
  have hP := hP.2 c1
  rw [if_neg c1] at hR
  rcases Classical.em (a1 = 5) with c2 | c2
  · have hP := hP.1 c2
    rw [if_pos c2] at hR
    refine j_tableIn (tgt := 80) (off := 79) C dX12_why_1 (by rw [c2]; decide) (by rw [c2]; decide) (by rw [c2]; decide) (by decide) ?_
    refine j_aload_n C dX12_why_80 rfl rfl ?_
    refine gM_37 C dX12_why_81 ?_
    refine j_iload_n C dX12_why_84 rfl rfl ?_
    obtain ⟨p3, hP⟩ := hP
    refine j_iald (k := 10) (v := (h 10 (a2.toNatClampNeg))) C dX12_why_85 (by decide) rfl p3 rfl ?_
    refine j_if_ne (tgt := 99) C dX12_why_86 (by decide) (fun c3 => ?_) (fun c3 => ?_)
    · have hP := hP.2 c3
      rw [if_neg c3] at hR
      exact j_vl (tX12_why_99 C h  hP hR) trivial
    · have hP := hP.1 c3
      rw [if_pos c3] at hR
      refine j_aload_n C dX12_why_89 rfl rfl ?_
      refine gM_37 C dX12_why_90 ?_
      refine j_iload C dX12_why_93 rfl ?_
      obtain ⟨p3, hP⟩ := hP
      refine j_iald (k := 10) (v := (h 10 (a3.toNatClampNeg))) C dX12_why_95 (by decide) rfl p3 rfl ?_
      refine j_if_eq (tgt := 103) C dX12_why_96 (by decide) (fun c4 => ?_) (fun c4 => ?_)
      · have hP := hP.1 c4
        rw [if_pos c4] at hR
        refine j_iconst (v := 0) C dX12_why_103 (by decide) ?_
        exact hR _ _ dX12_why_104
      · have hP := hP.2 c4
        rw [if_neg c4] at hR
        exact j_vl (tX12_why_99 C h  hP hR) trivial
  have hP := hP.2 c2
  rw [if_neg c2] at hR
  rcases Classical.em (a1 = 6) with c3 | c3
  · have hP := hP.1 c3
    rw [if_pos c3] at hR
    refine j_tableIn (tgt := 461) (off := 460) C dX12_why_1 (by rw [c3]; decide) (by rw [c3]; decide) (by rw [c3]; decide) (by decide) ?_
    refine j_iconst (v := 0) C dX12_why_461 (by decide) ?_
    exact hR _ _ dX12_why_462
  have hP := hP.2 c3
  rw [if_neg c3] at hR
  rcases Classical.em (a1 = 7) with c4 | c4
  · have hP := hP.1 c4
    rw [if_pos c4] at hR
    refine j_tableIn (tgt := 105) (off := 104) C dX12_why_1 (by rw [c4]; decide) (by rw [c4]; decide) (by rw [c4]; decide) (by decide) ?_
    refine j_aload_n C dX12_why_105 rfl rfl ?_
    refine gM_37 C dX12_why_106 ?_
    refine j_iload_n C dX12_why_109 rfl rfl ?_
    obtain ⟨p3, hP⟩ := hP
    refine j_iald (k := 10) (v := (h 10 (a2.toNatClampNeg))) C dX12_why_110 (by decide) rfl p3 rfl ?_
    refine j_if_eq (tgt := 118) C dX12_why_111 (by decide) (fun c5 => ?_) (fun c5 => ?_)
    · have hP := hP.1 c5
      rw [if_pos c5] at hR
      refine j_iconst (v := 0) C dX12_why_118 (by decide) ?_
      exact hR _ _ dX12_why_119
    · have hP := hP.2 c5
      rw [if_neg c5] at hR
      refine j_iconst (v := 1) C dX12_why_114 (by decide) ?_
      refine j_goto (tgt := 119) C dX12_why_115 (by decide) ?_
      exact hR _ _ dX12_why_119
  have hP := hP.2 c4
  rw [if_neg c4] at hR
  rcases Classical.em (a1 = 8) with c5 | c5
  · have hP := hP.1 c5
    rw [if_pos c5] at hR
    refine j_tableIn (tgt := 120) (off := 119) C dX12_why_1 (by rw [c5]; decide) (by rw [c5]; decide) (by rw [c5]; decide) (by decide) ?_
    refine j_aload_n C dX12_why_120 rfl rfl ?_
    refine gM_37 C dX12_why_121 ?_
    refine j_iload C dX12_why_124 rfl ?_
    obtain ⟨p3, hP⟩ := hP
    refine j_iald (k := 10) (v := (h 10 (a3.toNatClampNeg))) C dX12_why_126 (by decide) rfl p3 rfl ?_
    refine j_if_eq (tgt := 134) C dX12_why_127 (by decide) (fun c6 => ?_) (fun c6 => ?_)
    · have hP := hP.1 c6
      rw [if_pos c6] at hR
      refine j_aload_n C dX12_why_134 rfl rfl ?_
      refine gM_40 C dX12_why_135 ?_
      refine j_iload C dX12_why_138 rfl ?_
      obtain ⟨p3, hP⟩ := hP
      refine j_iald (k := 11) (v := (h 11 (a3.toNatClampNeg))) C dX12_why_140 (by decide) rfl p3 rfl ?_
      refine j_if_ge (tgt := 148) C dX12_why_141 (by decide) (fun c7 => ?_) (fun c7 => ?_)
      · have hP := hP.1 c7
        rw [if_pos c7] at hR
        refine j_aload_n C dX12_why_148 rfl rfl ?_
        refine gM_40 C dX12_why_149 ?_
        refine j_iload C dX12_why_152 rfl ?_
        obtain ⟨p3, hP⟩ := hP
        refine j_iald (k := 11) (v := (h 11 (a3.toNatClampNeg))) C dX12_why_154 (by decide) rfl p3 rfl ?_
        refine j_bipush (v := 16) C dX12_why_155 (by decide) ?_
        refine j_icmp_gt (tgt := 169) C dX12_why_157 (by decide) (fun c8 => ?_) (fun c8 => ?_)
        · have hP := hP.1 c8
          rw [if_pos c8] at hR
          exact j_vl (tX12_why_169 C h  hP hR) trivial
        · have hP := hP.2 c8
          rw [if_neg c8] at hR
          refine j_aload_n C dX12_why_160 rfl rfl ?_
          refine gM_185 (v := (h 0 18)) C dX12_why_161 rfl ?_
          refine j_bipush (v := 12) C dX12_why_164 (by decide) ?_
          refine j_icmp_ne (tgt := 173) C dX12_why_166 (by decide) (fun c9 => ?_) (fun c9 => ?_)
          · have hP := hP.2 c9
            rw [if_neg c9] at hR
            refine j_iconst (v := 0) C dX12_why_173 (by decide) ?_
            exact hR _ _ dX12_why_174
          · have hP := hP.1 c9
            rw [if_pos c9] at hR
            exact j_vl (tX12_why_169 C h  hP hR) trivial
      · have hP := hP.2 c7
        rw [if_neg c7] at hR
        refine j_iconst (v := 2) C dX12_why_144 (by decide) ?_
        refine j_goto (tgt := 174) C dX12_why_145 (by decide) ?_
        exact hR _ _ dX12_why_174
    · have hP := hP.2 c6
      rw [if_neg c6] at hR
      refine j_iconst (v := 1) C dX12_why_130 (by decide) ?_
      refine j_goto (tgt := 174) C dX12_why_131 (by decide) ?_
      exact hR _ _ dX12_why_174
  have hP := hP.2 c5
  rw [if_neg c5] at hR
  rcases Classical.em (a1 = 9) with c6 | c6
  · have hP := hP.1 c6
    rw [if_pos c6] at hR
    refine j_tableIn (tgt := 175) (off := 174) C dX12_why_1 (by rw [c6]; decide) (by rw [c6]; decide) (by rw [c6]; decide) (by decide) ?_
    refine j_aload_n C dX12_why_175 rfl rfl ?_
    refine gM_37 C dX12_why_176 ?_
    refine j_iload C dX12_why_179 rfl ?_
    obtain ⟨p3, hP⟩ := hP
    refine j_iald (k := 10) (v := (h 10 (a3.toNatClampNeg))) C dX12_why_181 (by decide) rfl p3 rfl ?_
    refine j_iconst (v := 1) C dX12_why_182 (by decide) ?_
    refine j_icmp_ne (tgt := 196) C dX12_why_183 (by decide) (fun c7 => ?_) (fun c7 => ?_)
    · have hP := hP.2 c7
      rw [if_neg c7] at hR
      exact j_vl (tX12_why_196 C h  hP hR) trivial
    · have hP := hP.1 c7
      rw [if_pos c7] at hR
      refine j_aload_n C dX12_why_186 rfl rfl ?_
      refine gM_37 C dX12_why_187 ?_
      refine j_iload C dX12_why_190 rfl ?_
      obtain ⟨p3, hP⟩ := hP
      refine j_iald (k := 10) (v := (h 10 (a4.toNatClampNeg))) C dX12_why_192 (by decide) rfl p3 rfl ?_
      refine j_if_eq (tgt := 200) C dX12_why_193 (by decide) (fun c8 => ?_) (fun c8 => ?_)
      · have hP := hP.1 c8
        rw [if_pos c8] at hR
        refine j_aload_n C dX12_why_200 rfl rfl ?_
        refine gM_40 C dX12_why_201 ?_
        refine j_iload C dX12_why_204 rfl ?_
        obtain ⟨p3, hP⟩ := hP
        refine j_iald (k := 11) (v := (h 11 (a4.toNatClampNeg))) C dX12_why_206 (by decide) rfl p3 rfl ?_
        refine j_i2l C dX12_why_207 ?_
        refine j_lconst (v := 0) C dX12_why_208 (by decide) ?_
        refine j_aload_n C dX12_why_209 rfl rfl ?_
        refine gM_62 C dX12_why_210 ?_
        refine j_aload_n C dX12_why_213 rfl rfl ?_
        refine gM_40 C dX12_why_214 ?_
        refine j_iload C dX12_why_217 rfl ?_
        obtain ⟨p12, hP⟩ := hP
        refine j_iald (k := 11) (v := (h 11 (a3.toNatClampNeg))) C dX12_why_219 (by decide) rfl p12 rfl ?_
        obtain ⟨p14, hP⟩ := hP
        refine j_iald (k := 18) (v := (h 18 ((h 11 (a3.toNatClampNeg)).toNatClampNeg))) C dX12_why_220 (by decide) rfl p14 rfl ?_
        refine j_iconst (v := 1) C dX12_why_221 (by decide) ?_
        refine j_isub C dX12_why_222 ?_
        refine j_i2l C dX12_why_223 ?_
        obtain ⟨p19, hP⟩ := hP
        refine j_callS C (MX12_isIn ((h 11 (a4.toNatClampNeg)).toInt64) 0 (((h 18 ((h 11 (a3.toNatClampNeg)).toNatClampNeg)) - 1).toInt64) h p19) dX12_why_224 (CKX12_isIn (by decide)) ⟨rfl, rfl⟩ lk_RX12_169 st_X12_isIn rfl (Nat.le_of_ble_eq_true rfl) ?_
        intro r S' h' hq
        obtain ⟨rfl, hh, rfl, hb21⟩ := hq
        rw [hh]
        refine j_if_ne (tgt := 234) C dX12_why_227 (by decide) (fun c9 => ?_) (fun c9 => ?_)
        · have hP := hP.2 c9
          rw [if_neg c9] at hR
          refine j_iconst (v := 0) C dX12_why_234 (by decide) ?_
          exact hR _ _ dX12_why_235
        · have hP := hP.1 c9
          rw [if_pos c9] at hR
          refine j_iconst (v := 4) C dX12_why_230 (by decide) ?_
          refine j_goto (tgt := 235) C dX12_why_231 (by decide) ?_
          exact hR _ _ dX12_why_235
      · have hP := hP.2 c8
        rw [if_neg c8] at hR
        exact j_vl (tX12_why_196 C h  hP hR) trivial
  have hP := hP.2 c6
  rw [if_neg c6] at hR
  rcases Classical.em (a1 = 10) with c7 | c7
  · have hP := hP.1 c7
    rw [if_pos c7] at hR
    refine j_tableIn (tgt := 236) (off := 235) C dX12_why_1 (by rw [c7]; decide) (by rw [c7]; decide) (by rw [c7]; decide) (by decide) ?_
    refine j_aload_n C dX12_why_236 rfl rfl ?_
    refine gM_37 C dX12_why_237 ?_
    refine j_iload_n C dX12_why_240 rfl rfl ?_
    obtain ⟨p3, hP⟩ := hP
    refine j_iald (k := 10) (v := (h 10 (a2.toNatClampNeg))) C dX12_why_241 (by decide) rfl p3 rfl ?_
    refine j_iconst (v := 1) C dX12_why_242 (by decide) ?_
    refine j_icmp_ne (tgt := 266) C dX12_why_243 (by decide) (fun c8 => ?_) (fun c8 => ?_)
    · have hP := hP.2 c8
      rw [if_neg c8] at hR
      exact j_vl (tX12_why_266 C h  hP hR) trivial
    · have hP := hP.1 c8
      rw [if_pos c8] at hR
      refine j_aload_n C dX12_why_246 rfl rfl ?_
      refine gM_37 C dX12_why_247 ?_
      refine j_iload C dX12_why_250 rfl ?_
      obtain ⟨p3, hP⟩ := hP
      refine j_iald (k := 10) (v := (h 10 (a3.toNatClampNeg))) C dX12_why_252 (by decide) rfl p3 rfl ?_
      refine j_if_ne (tgt := 266) C dX12_why_253 (by decide) (fun c9 => ?_) (fun c9 => ?_)
      · have hP := hP.2 c9
        rw [if_neg c9] at hR
        exact j_vl (tX12_why_266 C h  hP hR) trivial
      · have hP := hP.1 c9
        rw [if_pos c9] at hR
        refine j_aload_n C dX12_why_256 rfl rfl ?_
        refine gM_37 C dX12_why_257 ?_
        refine j_iload C dX12_why_260 rfl ?_
        obtain ⟨p3, hP⟩ := hP
        refine j_iald (k := 10) (v := (h 10 (a4.toNatClampNeg))) C dX12_why_262 (by decide) rfl p3 rfl ?_
        refine j_if_eq (tgt := 270) C dX12_why_263 (by decide) (fun c10 => ?_) (fun c10 => ?_)
        · have hP := hP.1 c10
          rw [if_pos c10] at hR
          refine j_aload_n C dX12_why_270 rfl rfl ?_
          refine gM_40 C dX12_why_271 ?_
          refine j_iload C dX12_why_274 rfl ?_
          obtain ⟨p3, hP⟩ := hP
          refine j_iald (k := 11) (v := (h 11 (a3.toNatClampNeg))) C dX12_why_276 (by decide) rfl p3 rfl ?_
          refine j_i2l C dX12_why_277 ?_
          refine j_lconst (v := 0) C dX12_why_278 (by decide) ?_
          refine j_aload_n C dX12_why_279 rfl rfl ?_
          refine gM_62 C dX12_why_280 ?_
          refine j_aload_n C dX12_why_283 rfl rfl ?_
          refine gM_40 C dX12_why_284 ?_
          refine j_iload_n C dX12_why_287 rfl rfl ?_
          obtain ⟨p12, hP⟩ := hP
          refine j_iald (k := 11) (v := (h 11 (a2.toNatClampNeg))) C dX12_why_288 (by decide) rfl p12 rfl ?_
          obtain ⟨p14, hP⟩ := hP
          refine j_iald (k := 18) (v := (h 18 ((h 11 (a2.toNatClampNeg)).toNatClampNeg))) C dX12_why_289 (by decide) rfl p14 rfl ?_
          refine j_iconst (v := 1) C dX12_why_290 (by decide) ?_
          refine j_isub C dX12_why_291 ?_
          refine j_i2l C dX12_why_292 ?_
          obtain ⟨p19, hP⟩ := hP
          refine j_callS C (MX12_isIn ((h 11 (a3.toNatClampNeg)).toInt64) 0 (((h 18 ((h 11 (a2.toNatClampNeg)).toNatClampNeg)) - 1).toInt64) h p19) dX12_why_293 (CKX12_isIn (by decide)) ⟨rfl, rfl⟩ lk_RX12_169 st_X12_isIn rfl (Nat.le_of_ble_eq_true rfl) ?_
          intro r S' h' hq
          obtain ⟨rfl, hh, rfl, hb21⟩ := hq
          rw [hh]
          refine j_if_ne (tgt := 303) C dX12_why_296 (by decide) (fun c11 => ?_) (fun c11 => ?_)
          · have hP := hP.2 c11
            rw [if_neg c11] at hR
            refine j_iconst (v := 0) C dX12_why_303 (by decide) ?_
            exact hR _ _ dX12_why_304
          · have hP := hP.1 c11
            rw [if_pos c11] at hR
            refine j_iconst (v := 4) C dX12_why_299 (by decide) ?_
            refine j_goto (tgt := 304) C dX12_why_300 (by decide) ?_
            exact hR _ _ dX12_why_304
        · have hP := hP.2 c10
          rw [if_neg c10] at hR
          exact j_vl (tX12_why_266 C h  hP hR) trivial
  have hP := hP.2 c7
  rw [if_neg c7] at hR
  rcases Classical.em (a1 = 11) with c8 | c8
  · have hP := hP.1 c8
    rw [if_pos c8] at hR
    refine j_tableIn (tgt := 305) (off := 304) C dX12_why_1 (by rw [c8]; decide) (by rw [c8]; decide) (by rw [c8]; decide) (by decide) ?_
    refine j_aload_n C dX12_why_305 rfl rfl ?_
    refine gM_185 (v := (h 0 18)) C dX12_why_306 rfl ?_
    refine j_bipush (v := 12) C dX12_why_309 (by decide) ?_
    refine j_icmp_ne (tgt := 318) C dX12_why_311 (by decide) (fun c9 => ?_) (fun c9 => ?_)
    · have hP := hP.2 c9
      rw [if_neg c9] at hR
      refine j_iconst (v := 0) C dX12_why_318 (by decide) ?_
      exact hR _ _ dX12_why_319
    · have hP := hP.1 c9
      rw [if_pos c9] at hR
      refine j_iconst (v := 3) C dX12_why_314 (by decide) ?_
      refine j_goto (tgt := 319) C dX12_why_315 (by decide) ?_
      exact hR _ _ dX12_why_319
  have hP := hP.2 c8
  rw [if_neg c8] at hR
  rcases Classical.em (a1 = 12) with c9 | c9
  · have hP := hP.1 c9
    rw [if_pos c9] at hR
    refine j_tableIn (tgt := 320) (off := 319) C dX12_why_1 (by rw [c9]; decide) (by rw [c9]; decide) (by rw [c9]; decide) (by decide) ?_
    refine j_aload_n C dX12_why_320 rfl rfl ?_
    refine j_iload_n C dX12_why_321 rfl rfl ?_
    obtain ⟨p2, hP⟩ := hP
    refine j_callV C (MX12_isLock a2 h p2) dX12_why_322 (CKX12_isLock (by decide)) ⟨rfl, rfl⟩ lk_RX12_211 in_X12_isLock se_X12_isLock (by decide) rfl rfl rfl (Nat.le_of_ble_eq_true rfl) ?_
    intro r S' h' hq
    obtain ⟨rfl, hh, rfl, hb4⟩ := hq
    rw [hh]
    refine j_if_ne (tgt := 332) C dX12_why_325 (by decide) (fun c10 => ?_) (fun c10 => ?_)
    · have hP := hP.2 c10
      rw [if_neg c10] at hR
      refine j_aload_n C dX12_why_332 rfl rfl ?_
      refine gM_59 C dX12_why_333 ?_
      refine j_aload_n C dX12_why_336 rfl rfl ?_
      refine gM_40 C dX12_why_337 ?_
      refine j_iload_n C dX12_why_340 rfl rfl ?_
      obtain ⟨p5, hP⟩ := hP
      refine j_iald (k := 11) (v := (h 11 (a2.toNatClampNeg))) C dX12_why_341 (by decide) rfl p5 rfl ?_
      obtain ⟨p7, hP⟩ := hP
      refine j_iald (k := 17) (v := (h 17 ((h 11 (a2.toNatClampNeg)).toNatClampNeg))) C dX12_why_342 (by decide) rfl p7 rfl ?_
      refine j_iload_n C dX12_why_343 rfl rfl ?_
      refine j_icmp_ne (tgt := 351) C dX12_why_344 (by decide) (fun c11 => ?_) (fun c11 => ?_)
      · have hP := hP.2 c11
        rw [if_neg c11] at hR
        refine j_iconst (v := 0) C dX12_why_351 (by decide) ?_
        exact hR _ _ dX12_why_352
      · have hP := hP.1 c11
        rw [if_pos c11] at hR
        refine j_iconst (v := 5) C dX12_why_347 (by decide) ?_
        refine j_goto (tgt := 352) C dX12_why_348 (by decide) ?_
        exact hR _ _ dX12_why_352
    · have hP := hP.1 c10
      rw [if_pos c10] at hR
      refine j_iconst (v := 1) C dX12_why_328 (by decide) ?_
      refine j_goto (tgt := 352) C dX12_why_329 (by decide) ?_
      exact hR _ _ dX12_why_352
  have hP := hP.2 c9
  rw [if_neg c9] at hR
  rcases Classical.em (a1 = 13) with c10 | c10
  · have hP := hP.1 c10
    rw [if_pos c10] at hR
    refine j_tableIn (tgt := 353) (off := 352) C dX12_why_1 (by rw [c10]; decide) (by rw [c10]; decide) (by rw [c10]; decide) (by decide) ?_
    refine j_aload_n C dX12_why_353 rfl rfl ?_
    refine j_iload_n C dX12_why_354 rfl rfl ?_
    obtain ⟨p2, hP⟩ := hP
    refine j_callV C (MX12_isLock a2 h p2) dX12_why_355 (CKX12_isLock (by decide)) ⟨rfl, rfl⟩ lk_RX12_211 in_X12_isLock se_X12_isLock (by decide) rfl rfl rfl (Nat.le_of_ble_eq_true rfl) ?_
    intro r S' h' hq
    obtain ⟨rfl, hh, rfl, hb4⟩ := hq
    rw [hh]
    refine j_if_ne (tgt := 365) C dX12_why_358 (by decide) (fun c11 => ?_) (fun c11 => ?_)
    · have hP := hP.2 c11
      rw [if_neg c11] at hR
      refine j_aload_n C dX12_why_365 rfl rfl ?_
      refine gM_59 C dX12_why_366 ?_
      refine j_aload_n C dX12_why_369 rfl rfl ?_
      refine gM_40 C dX12_why_370 ?_
      refine j_iload_n C dX12_why_373 rfl rfl ?_
      obtain ⟨p5, hP⟩ := hP
      refine j_iald (k := 11) (v := (h 11 (a2.toNatClampNeg))) C dX12_why_374 (by decide) rfl p5 rfl ?_
      obtain ⟨p7, hP⟩ := hP
      refine j_iald (k := 17) (v := (h 17 ((h 11 (a2.toNatClampNeg)).toNatClampNeg))) C dX12_why_375 (by decide) rfl p7 rfl ?_
      refine j_iload_n C dX12_why_376 rfl rfl ?_
      refine j_icmp_eq (tgt := 385) C dX12_why_377 (by decide) (fun c12 => ?_) (fun c12 => ?_)
      · have hP := hP.1 c12
        rw [if_pos c12] at hR
        refine j_iconst (v := 0) C dX12_why_385 (by decide) ?_
        exact hR _ _ dX12_why_386
      · have hP := hP.2 c12
        rw [if_neg c12] at hR
        refine j_bipush (v := 6) C dX12_why_380 (by decide) ?_
        refine j_goto (tgt := 386) C dX12_why_382 (by decide) ?_
        exact hR _ _ dX12_why_386
    · have hP := hP.1 c11
      rw [if_pos c11] at hR
      refine j_iconst (v := 1) C dX12_why_361 (by decide) ?_
      refine j_goto (tgt := 386) C dX12_why_362 (by decide) ?_
      exact hR _ _ dX12_why_386
  have hP := hP.2 c10
  rw [if_neg c10] at hR
  rcases Classical.em (a1 = 14) with c11 | c11
  · have hP := hP.1 c11
    rw [if_pos c11] at hR
    refine j_tableIn (tgt := 387) (off := 386) C dX12_why_1 (by rw [c11]; decide) (by rw [c11]; decide) (by rw [c11]; decide) (by decide) ?_
    refine j_aload_n C dX12_why_387 rfl rfl ?_
    refine gM_37 C dX12_why_388 ?_
    refine j_iload_n C dX12_why_391 rfl rfl ?_
    obtain ⟨p3, hP⟩ := hP
    refine j_iald (k := 10) (v := (h 10 (a2.toNatClampNeg))) C dX12_why_392 (by decide) rfl p3 rfl ?_
    refine j_iconst (v := 3) C dX12_why_393 (by decide) ?_
    refine j_icmp_eq (tgt := 401) C dX12_why_394 (by decide) (fun c12 => ?_) (fun c12 => ?_)
    · have hP := hP.1 c12
      rw [if_pos c12] at hR
      refine j_aload_n C dX12_why_401 rfl rfl ?_
      refine gM_59 C dX12_why_402 ?_
      refine j_aload_n C dX12_why_405 rfl rfl ?_
      refine gM_40 C dX12_why_406 ?_
      refine j_iload_n C dX12_why_409 rfl rfl ?_
      obtain ⟨p5, hP⟩ := hP
      refine j_iald (k := 11) (v := (h 11 (a2.toNatClampNeg))) C dX12_why_410 (by decide) rfl p5 rfl ?_
      obtain ⟨p7, hP⟩ := hP
      refine j_iald (k := 17) (v := (h 17 ((h 11 (a2.toNatClampNeg)).toNatClampNeg))) C dX12_why_411 (by decide) rfl p7 rfl ?_
      refine j_iload_n C dX12_why_412 rfl rfl ?_
      refine j_icmp_eq (tgt := 421) C dX12_why_413 (by decide) (fun c13 => ?_) (fun c13 => ?_)
      · have hP := hP.1 c13
        rw [if_pos c13] at hR
        refine j_iconst (v := 0) C dX12_why_421 (by decide) ?_
        exact hR _ _ dX12_why_422
      · have hP := hP.2 c13
        rw [if_neg c13] at hR
        refine j_bipush (v := 6) C dX12_why_416 (by decide) ?_
        refine j_goto (tgt := 422) C dX12_why_418 (by decide) ?_
        exact hR _ _ dX12_why_422
    · have hP := hP.2 c12
      rw [if_neg c12] at hR
      refine j_iconst (v := 1) C dX12_why_397 (by decide) ?_
      refine j_goto (tgt := 422) C dX12_why_398 (by decide) ?_
      exact hR _ _ dX12_why_422
  have hP := hP.2 c11
  rw [if_neg c11] at hR
  rcases Classical.em (a1 = 15) with c12 | c12
  · have hP := hP.1 c12
    rw [if_pos c12] at hR
    refine j_tableIn (tgt := 387) (off := 386) C dX12_why_1 (by rw [c12]; decide) (by rw [c12]; decide) (by rw [c12]; decide) (by decide) ?_
    refine j_aload_n C dX12_why_387 rfl rfl ?_
    refine gM_37 C dX12_why_388 ?_
    refine j_iload_n C dX12_why_391 rfl rfl ?_
    obtain ⟨p3, hP⟩ := hP
    refine j_iald (k := 10) (v := (h 10 (a2.toNatClampNeg))) C dX12_why_392 (by decide) rfl p3 rfl ?_
    refine j_iconst (v := 3) C dX12_why_393 (by decide) ?_
    refine j_icmp_eq (tgt := 401) C dX12_why_394 (by decide) (fun c13 => ?_) (fun c13 => ?_)
    · have hP := hP.1 c13
      rw [if_pos c13] at hR
      refine j_aload_n C dX12_why_401 rfl rfl ?_
      refine gM_59 C dX12_why_402 ?_
      refine j_aload_n C dX12_why_405 rfl rfl ?_
      refine gM_40 C dX12_why_406 ?_
      refine j_iload_n C dX12_why_409 rfl rfl ?_
      obtain ⟨p5, hP⟩ := hP
      refine j_iald (k := 11) (v := (h 11 (a2.toNatClampNeg))) C dX12_why_410 (by decide) rfl p5 rfl ?_
      obtain ⟨p7, hP⟩ := hP
      refine j_iald (k := 17) (v := (h 17 ((h 11 (a2.toNatClampNeg)).toNatClampNeg))) C dX12_why_411 (by decide) rfl p7 rfl ?_
      refine j_iload_n C dX12_why_412 rfl rfl ?_
      refine j_icmp_eq (tgt := 421) C dX12_why_413 (by decide) (fun c14 => ?_) (fun c14 => ?_)
      · have hP := hP.1 c14
        rw [if_pos c14] at hR
        refine j_iconst (v := 0) C dX12_why_421 (by decide) ?_
        exact hR _ _ dX12_why_422
      · have hP := hP.2 c14
        rw [if_neg c14] at hR
        refine j_bipush (v := 6) C dX12_why_416 (by decide) ?_
        refine j_goto (tgt := 422) C dX12_why_418 (by decide) ?_
        exact hR _ _ dX12_why_422
    · have hP := hP.2 c13
      rw [if_neg c13] at hR
      refine j_iconst (v := 1) C dX12_why_397 (by decide) ?_
      refine j_goto (tgt := 422) C dX12_why_398 (by decide) ?_
      exact hR _ _ dX12_why_422
  have hP := hP.2 c12
  rw [if_neg c12] at hR
  rcases Classical.em (a1 = 16) with c13 | c13
  · have hP := hP.1 c13
    rw [if_pos c13] at hR
    refine j_tableIn (tgt := 423) (off := 422) C dX12_why_1 (by rw [c13]; decide) (by rw [c13]; decide) (by rw [c13]; decide) (by decide) ?_
    refine j_aload_n C dX12_why_423 rfl rfl ?_
    refine gM_218 (v := (h 0 33)) C dX12_why_424 rfl ?_
    refine j_if_ne (tgt := 446) C dX12_why_427 (by decide) (fun c14 => ?_) (fun c14 => ?_)
    · have hP := hP.2 c14
      rw [if_neg c14] at hR
      refine j_iconst (v := 0) C dX12_why_446 (by decide) ?_
      exact hR _ _ dX12_why_447
    · have hP := hP.1 c14
      rw [if_pos c14] at hR
      refine j_aload_n C dX12_why_430 rfl rfl ?_
      refine gM_188 (v := (h 0 23)) C dX12_why_431 rfl ?_
      refine j_aload_n C dX12_why_434 rfl rfl ?_
      refine gM_177 (v := (h 0 7)) C dX12_why_435 rfl ?_
      refine j_icmp_ne (tgt := 446) C dX12_why_438 (by decide) (fun c15 => ?_) (fun c15 => ?_)
      · have hP := hP.2 c15
        rw [if_neg c15] at hR
        refine j_iconst (v := 0) C dX12_why_446 (by decide) ?_
        exact hR _ _ dX12_why_447
      · have hP := hP.1 c15
        rw [if_pos c15] at hR
        refine j_bipush (v := 7) C dX12_why_441 (by decide) ?_
        refine j_goto (tgt := 447) C dX12_why_443 (by decide) ?_
        exact hR _ _ dX12_why_447
  have hP := hP.2 c13
  rw [if_neg c13] at hR
  rcases Classical.em (a1 = 17) with c14 | c14
  · have hP := hP.1 c14
    rw [if_pos c14] at hR
    refine j_tableIn (tgt := 448) (off := 447) C dX12_why_1 (by rw [c14]; decide) (by rw [c14]; decide) (by rw [c14]; decide) (by decide) ?_
    refine j_iconst (v := 0) C dX12_why_448 (by decide) ?_
    exact hR _ _ dX12_why_449
  have hP := hP.2 c14
  rw [if_neg c14] at hR
  rcases Classical.em (a1 = 18) with c15 | c15
  · have hP := hP.1 c15
    rw [if_pos c15] at hR
    refine j_tableIn (tgt := 450) (off := 449) C dX12_why_1 (by rw [c15]; decide) (by rw [c15]; decide) (by rw [c15]; decide) (by decide) ?_
    refine j_bipush (v := 10) C dX12_why_450 (by decide) ?_
    refine j_iload C dX12_why_452 rfl ?_
    refine j_bipush (v := 10) C dX12_why_454 (by decide) ?_
    obtain ⟨p3, hP⟩ := hP
    refine j_callS C (MX12_modulo a5 10 h p3) dX12_why_456 (CKX12_modulo (by decide)) ⟨rfl, rfl⟩ lk_RX12_204 st_X12_modulo rfl (Nat.le_of_ble_eq_true rfl) ?_
    intro r S' h' hq
    obtain ⟨rfl, hh, rfl⟩ := hq
    rw [hh]
    refine j_iadd C dX12_why_459 ?_
    exact hR _ _ dX12_why_460
  have hP := hP.2 c15
  rw [if_neg c15] at hR
  refine j_tableOut (tgt := 461) C dX12_why_1 (sw_out (fun v h1 h2 e => by rcases (show v = 3 ∨ v = 4 ∨ v = 5 ∨ v = 6 ∨ v = 7 ∨ v = 8 ∨ v = 9 ∨ v = 10 ∨ v = 11 ∨ v = 12 ∨ v = 13 ∨ v = 14 ∨ v = 15 ∨ v = 16 ∨ v = 17 ∨ v = 18 by omega) with z | z | z | z | z | z | z | z | z | z | z | z | z | z | z | z <;> rw [z] at e <;> first | exact c0 (e.trans (by decide)) | exact c1 (e.trans (by decide)) | exact c2 (e.trans (by decide)) | exact c3 (e.trans (by decide)) | exact c4 (e.trans (by decide)) | exact c5 (e.trans (by decide)) | exact c6 (e.trans (by decide)) | exact c7 (e.trans (by decide)) | exact c8 (e.trans (by decide)) | exact c9 (e.trans (by decide)) | exact c10 (e.trans (by decide)) | exact c11 (e.trans (by decide)) | exact c12 (e.trans (by decide)) | exact c13 (e.trans (by decide)) | exact c14 (e.trans (by decide)) | exact c15 (e.trans (by decide)))) (by decide) ?_
  refine j_iconst (v := 0) C dX12_why_461 (by decide) ?_
  exact hR _ _ dX12_why_462
theorem MX12_why {l0 : Launch} {Y : fj_Y} {ad : Nat → Nat} (a0 : Int32) (a1 : Int32) (a2 : Int32) (a3 : Int32) (a4 : Int32) (a5 : Int32) (h : ph_H) (hP : PX12_why a0 a1 a2 a3 a4 a5 h) : MI l0 yX12_why cX12_why 7 (some .int) ({ frames := 1, cells := 0, slots := 0, locals := 25 } : Room) Y ad 50 SM h [.ref (ad 0), .int a0, .int a1, .int a2, .int a3, .int a4, .int a5] (fun r S' h' => S' = SM ∧ h' = h ∧ r = FX12_why a0 a1 a2 a3 a4 a5 h) := met_i (by decide) (Nat.le_of_ble_eq_true rfl) (fun _ _ _ _ => rfl) (fun X C K => j_vl (tX12_why C a0 a1 a2 a3 a4 a5 h hP (fun pc lv hd => K _ _ _ ⟨rfl, rfl, rfl⟩ pc lv hd)) ⟨rfl, rfl, rfl, rfl, rfl, rfl, rfl, trivial⟩)

-- X12_work
def FX12_work_88  (h : ph_H) : ph_H := h
def PX12_work_88  (h : ph_H) : Prop := True
set_option maxRecDepth 100000 in
set_option maxHeartbeats 4000000 in
theorem tX12_work_88 {X : fj_X} {Y : fj_Y} {l0 : Launch} {ad : Nat → Nat} (C : FC X Y l0 cX12_work 7 RX12 ({ frames := 1, cells := 0, slots := 0, locals := 24 } : Room) 0 0 none) (h : ph_H) (hP : PX12_work_88  h) (hR : RETv X Y ad 50 SM cX12_work (FX12_work_88  h)) : FJ X Y ad 50 SM h 88 [] [] := by
  unfold PX12_work_88 at hP
  unfold FX12_work_88 at hR
  refine j_goto (tgt := 444) C dX12_work_88 (by decide) ?_
  exact hR _ _ dX12_work_444
def FX12_work_111  (h : ph_H) : ph_H := h
def PX12_work_111  (h : ph_H) : Prop := True
set_option maxRecDepth 100000 in
set_option maxHeartbeats 4000000 in
theorem tX12_work_111 {X : fj_X} {Y : fj_Y} {l0 : Launch} {ad : Nat → Nat} (C : FC X Y l0 cX12_work 7 RX12 ({ frames := 1, cells := 0, slots := 0, locals := 24 } : Room) 0 0 none) (h : ph_H) (hP : PX12_work_111  h) (hR : RETv X Y ad 50 SM cX12_work (FX12_work_111  h)) : FJ X Y ad 50 SM h 111 [] [] := by
  unfold PX12_work_111 at hP
  unfold FX12_work_111 at hR
  refine j_goto (tgt := 444) C dX12_work_111 (by decide) ?_
  exact hR _ _ dX12_work_444
def FX12_work_134  (h : ph_H) : ph_H := h
def PX12_work_134  (h : ph_H) : Prop := True
set_option maxRecDepth 100000 in
set_option maxHeartbeats 4000000 in
theorem tX12_work_134 {X : fj_X} {Y : fj_Y} {l0 : Launch} {ad : Nat → Nat} (C : FC X Y l0 cX12_work 7 RX12 ({ frames := 1, cells := 0, slots := 0, locals := 24 } : Room) 0 0 none) (h : ph_H) (hP : PX12_work_134  h) (hR : RETv X Y ad 50 SM cX12_work (FX12_work_134  h)) : FJ X Y ad 50 SM h 134 [] [] := by
  unfold PX12_work_134 at hP
  unfold FX12_work_134 at hR
  refine j_goto (tgt := 444) C dX12_work_134 (by decide) ?_
  exact hR _ _ dX12_work_444
def FX12_work_155  (h : ph_H) : ph_H := h
def PX12_work_155  (h : ph_H) : Prop := True
set_option maxRecDepth 100000 in
set_option maxHeartbeats 4000000 in
theorem tX12_work_155 {X : fj_X} {Y : fj_Y} {l0 : Launch} {ad : Nat → Nat} (C : FC X Y l0 cX12_work 7 RX12 ({ frames := 1, cells := 0, slots := 0, locals := 24 } : Room) 0 0 none) (h : ph_H) (hP : PX12_work_155  h) (hR : RETv X Y ad 50 SM cX12_work (FX12_work_155  h)) : FJ X Y ad 50 SM h 155 [] [] := by
  unfold PX12_work_155 at hP
  unfold FX12_work_155 at hR
  refine j_goto (tgt := 444) C dX12_work_155 (by decide) ?_
  exact hR _ _ dX12_work_444
def FX12_work_152  (s0 : Int32) (s1 : Int32) (s2 : Int32) (h : ph_H) : ph_H := FX12_work_155  (FX12_set s2 s1 s0 h)
def PX12_work_152  (s0 : Int32) (s1 : Int32) (s2 : Int32) (h : ph_H) : Prop := (PX12_set s2 s1 s0 h) ∧ (PX12_work_155  (FX12_set s2 s1 s0 h))
set_option maxRecDepth 100000 in
set_option maxHeartbeats 4000000 in
theorem tX12_work_152 {X : fj_X} {Y : fj_Y} {l0 : Launch} {ad : Nat → Nat} (C : FC X Y l0 cX12_work 7 RX12 ({ frames := 1, cells := 0, slots := 0, locals := 24 } : Room) 0 0 none) (s0 : Int32) (s1 : Int32) (s2 : Int32) (h : ph_H) (hP : PX12_work_152  s0 s1 s2 h) (hR : RETv X Y ad 50 SM cX12_work (FX12_work_152  s0 s1 s2 h)) : FJ X Y ad 50 SM h 152 [] [.int s0, .int s1, .int s2, .ref (ad 0)] := by
  unfold PX12_work_152 at hP
  unfold FX12_work_152 at hR
  obtain ⟨p0, hP⟩ := hP
  refine j_callVv C (MX12_set s2 s1 s0 h p0) dX12_work_152 (CKX12_set (by decide)) ⟨rfl, rfl⟩ lk_RX12_221 in_X12_set se_X12_set (by decide) rfl rfl rfl (Nat.le_of_ble_eq_true rfl) ?_
  intro S' h' hq
  obtain ⟨rfl, rfl⟩ := hq
  exact j_vl (tX12_work_155 C  (FX12_set s2 s1 s0 h) hP hR) trivial
def FX12_work_212  (h : ph_H) : ph_H := h
def PX12_work_212  (h : ph_H) : Prop := True
set_option maxRecDepth 100000 in
set_option maxHeartbeats 4000000 in
theorem tX12_work_212 {X : fj_X} {Y : fj_Y} {l0 : Launch} {ad : Nat → Nat} (C : FC X Y l0 cX12_work 7 RX12 ({ frames := 1, cells := 0, slots := 0, locals := 24 } : Room) 0 0 none) (h : ph_H) (hP : PX12_work_212  h) (hR : RETv X Y ad 50 SM cX12_work (FX12_work_212  h)) : FJ X Y ad 50 SM h 212 [] [] := by
  unfold PX12_work_212 at hP
  unfold FX12_work_212 at hR
  refine j_goto (tgt := 444) C dX12_work_212 (by decide) ?_
  exact hR _ _ dX12_work_444
def FX12_work_435 (L391 : Int32 → Int32 → ph_H → ph_H) (x3 : Int32) (x6 : Int32) (h : ph_H) : ph_H := L391 x3 (x6 + 1) h
def PX12_work_435 (LP391 : Int32 → Int32 → ph_H → Prop) (x3 : Int32) (x6 : Int32) (h : ph_H) : Prop := LP391 x3 (x6 + 1) h
set_option maxRecDepth 100000 in
set_option maxHeartbeats 4000000 in
theorem tX12_work_435 {X : fj_X} {Y : fj_Y} {l0 : Launch} {ad : Nat → Nat} (C : FC X Y l0 cX12_work 7 RX12 ({ frames := 1, cells := 0, slots := 0, locals := 24 } : Room) 0 0 none) (L391 : Int32 → Int32 → ph_H → ph_H) (LP391 : Int32 → Int32 → ph_H → Prop) (hL391 : ∀ (x3 : Int32) (x6 : Int32) (h : ph_H), LP391 x3 x6 h → RETv X Y ad 50 SM cX12_work (L391 x3 x6 h) → FJ X Y ad 50 SM h 391 [(0, .ref (ad 0)), (3, .int x3), (6, .int x6)] []) (x3 : Int32) (x6 : Int32) (h : ph_H) (hP : PX12_work_435 LP391 x3 x6 h) (hR : RETv X Y ad 50 SM cX12_work (FX12_work_435 L391 x3 x6 h)) : FJ X Y ad 50 SM h 435 [(0, .ref (ad 0)), (3, .int x3), (6, .int x6)] [] := by
  unfold PX12_work_435 at hP
  unfold FX12_work_435 at hR
  refine j_iinc (v := (x6 + 1)) C dX12_work_435 rfl rfl (by decide) rfl ?_
  refine j_goto (tgt := 391) C dX12_work_438 (by decide) ?_
  exact j_vl (hL391 x3 (x6 + 1) h hP hR) ⟨rfl, rfl, rfl, trivial⟩
def FX12_work_391  : Nat → Int32 → Int32 → ph_H → ph_H
  | 0, _, _, h => h
  | q + 1, x3, x6, h => if 4 ≤ x6 then (h) else (if (h 14 (x6.toNatClampNeg)) = (h 11 (x3.toNatClampNeg)) then (FX12_work_435 (FX12_work_391  q) x3 x6 (hs (hs h 15 x6.toNatClampNeg (h 14 (x6.toNatClampNeg))) 14 x6.toNatClampNeg (-1))) else (FX12_work_435 (FX12_work_391  q) x3 x6 h))
def PX12_work_391  : Nat → Int32 → Int32 → ph_H → Prop
  | 0, _, _, _ => False
  | q + 1, x3, x6, h => (4 ≤ x6 → (True)) ∧ (¬ 4 ≤ x6 → (vp_in x6 4 ∧ (vp_in x3 28 ∧ (((h 14 (x6.toNatClampNeg)) = (h 11 (x3.toNatClampNeg)) → (vp_in x6 4 ∧ (vp_in x6 4 ∧ (vp_in x6 4 ∧ (PX12_work_435 (PX12_work_391  q) x3 x6 (hs (hs h 15 x6.toNatClampNeg (h 14 (x6.toNatClampNeg))) 14 x6.toNatClampNeg (-1))))))) ∧ (¬ (h 14 (x6.toNatClampNeg)) = (h 11 (x3.toNatClampNeg)) → (PX12_work_435 (PX12_work_391  q) x3 x6 h))))))
set_option maxRecDepth 100000 in
set_option maxHeartbeats 4000000 in
theorem tX12_work_391 {X : fj_X} {Y : fj_Y} {l0 : Launch} {ad : Nat → Nat} (C : FC X Y l0 cX12_work 7 RX12 ({ frames := 1, cells := 0, slots := 0, locals := 24 } : Room) 0 0 none) : ∀ (q : Nat) (x3 : Int32) (x6 : Int32) (h : ph_H), PX12_work_391  q x3 x6 h → RETv X Y ad 50 SM cX12_work (FX12_work_391  q x3 x6 h) → FJ X Y ad 50 SM h 391 [(0, .ref (ad 0)), (3, .int x3), (6, .int x6)] [] := by
  intro q
  induction q with
  | zero =>
    intro x3 x6 h hP hR
    exact absurd hP id
  | succ q ih =>
    intro x3 x6 h hP hR
    unfold PX12_work_391 at hP
    unfold FX12_work_391 at hR
    refine j_iload C dX12_work_391 rfl ?_
    refine j_iconst (v := 4) C dX12_work_393 (by decide) ?_
    refine j_icmp_ge (tgt := 441) C dX12_work_394 (by decide) (fun c0 => ?_) (fun c0 => ?_)
    · have hP := hP.1 c0
      rw [if_pos c0] at hR
      refine j_goto (tgt := 444) C dX12_work_441 (by decide) ?_
      exact hR _ _ dX12_work_444
    · have hP := hP.2 c0
      rw [if_neg c0] at hR
      refine j_aload_n C dX12_work_397 rfl rfl ?_
      refine gM_50 C dX12_work_398 ?_
      refine j_iload C dX12_work_401 rfl ?_
      obtain ⟨p3, hP⟩ := hP
      refine j_iald (k := 14) (v := (h 14 (x6.toNatClampNeg))) C dX12_work_403 (by decide) rfl p3 rfl ?_
      refine j_aload_n C dX12_work_404 rfl rfl ?_
      refine gM_40 C dX12_work_405 ?_
      refine j_iload_n C dX12_work_408 rfl rfl ?_
      obtain ⟨p8, hP⟩ := hP
      refine j_iald (k := 11) (v := (h 11 (x3.toNatClampNeg))) C dX12_work_409 (by decide) rfl p8 rfl ?_
      refine j_icmp_ne (tgt := 435) C dX12_work_410 (by decide) (fun c1 => ?_) (fun c1 => ?_)
      · have hP := hP.2 c1
        rw [if_neg c1] at hR
        exact j_vl (tX12_work_435 C (FX12_work_391  q) (PX12_work_391  q) (ih) x3 x6 h hP hR) ⟨rfl, rfl, rfl, trivial⟩
      · have hP := hP.1 c1
        rw [if_pos c1] at hR
        refine j_aload_n C dX12_work_413 rfl rfl ?_
        refine gM_53 C dX12_work_414 ?_
        refine j_iload C dX12_work_417 rfl ?_
        refine j_aload_n C dX12_work_419 rfl rfl ?_
        refine gM_50 C dX12_work_420 ?_
        refine j_iload C dX12_work_423 rfl ?_
        obtain ⟨p6, hP⟩ := hP
        refine j_iald (k := 14) (v := (h 14 (x6.toNatClampNeg))) C dX12_work_425 (by decide) rfl p6 rfl ?_
        obtain ⟨p8, hP⟩ := hP
        refine j_iast (k := 15) C dX12_work_426 (by decide) rfl p8 ?_
        refine j_aload_n C dX12_work_427 rfl rfl ?_
        refine gM_50 C dX12_work_428 ?_
        refine j_iload C dX12_work_431 rfl ?_
        refine j_iconst (v := (-1)) C dX12_work_433 (by decide) ?_
        obtain ⟨p14, hP⟩ := hP
        refine j_iast (k := 14) C dX12_work_434 (by decide) rfl p14 ?_
        exact j_vl (tX12_work_435 C (FX12_work_391  q) (PX12_work_391  q) (ih) x3 x6 (hs (hs h 15 x6.toNatClampNeg (h 14 (x6.toNatClampNeg))) 14 x6.toNatClampNeg (-1)) hP hR) ⟨rfl, rfl, rfl, trivial⟩
def FX12_work (a0 : Int32) (a1 : Int32) (a2 : Int32) (a3 : Int32) (a4 : Int32) (h : ph_H) : ph_H := if a1 = 3 then (FX12_work_88  (FX12_set a2 0 ((h 11 (a2.toNatClampNeg)) + (h 11 (a3.toNatClampNeg))) h)) else (if a1 = 4 then (FX12_work_111  (FX12_set a2 0 ((h 11 (a2.toNatClampNeg)) - (h 11 (a3.toNatClampNeg))) h)) else (if a1 = 5 then (FX12_work_134  (FX12_set a2 0 ((h 11 (a2.toNatClampNeg)) * (h 11 (a3.toNatClampNeg))) h)) else (if a1 = 6 then (h) else (if a1 = 7 then (h) else (if a1 = 8 then (FX12_work_152  ((FX12_newThing 1 (h 11 (a3.toNatClampNeg)) h).1) 1 a2 ((FX12_newThing 1 (h 11 (a3.toNatClampNeg)) h).2)) else (if a1 = 9 then (FX12_work_212  (FX12_set a2 0 (h 19 (((16 * (h 11 (a3.toNatClampNeg))) + (h 11 (a4.toNatClampNeg))).toNatClampNeg)) (hs h 0 29 ((100 + (20 * (h 11 (a3.toNatClampNeg)))) + (h 11 (a4.toNatClampNeg)))))) else (if a1 = 10 then ((hs (hs h 0 30 ((100 + (20 * (h 11 (a2.toNatClampNeg)))) + (h 11 (a3.toNatClampNeg)))) 19 ((16 * (h 11 (a2.toNatClampNeg))) + (h 11 (a3.toNatClampNeg))).toNatClampNeg (h 11 (a4.toNatClampNeg)))) else (if a1 = 11 then (h) else (if a1 = 12 then ((hs (hs (hs h 17 (h 11 (a2.toNatClampNeg)).toNatClampNeg a0) 0 31 1) 0 32 (h 11 (a2.toNatClampNeg)))) else (if a1 = 13 then ((hs (hs (hs h 17 (h 11 (a2.toNatClampNeg)).toNatClampNeg (-1)) 0 31 2) 0 32 (h 11 (a2.toNatClampNeg)))) else (if a1 = 14 then ((hs (hs (hs (hs h 17 (h 11 (a2.toNatClampNeg)).toNatClampNeg (-1)) 14 a0.toNatClampNeg (h 11 (a2.toNatClampNeg))) 0 31 2) 0 32 (h 11 (a2.toNatClampNeg)))) else (if a1 = 15 then (FX12_work_391 2000 a2 0 (hs (hs h 0 31 3) 0 32 (h 11 (a2.toNatClampNeg)))) else (h)))))))))))))
def PX12_work (a0 : Int32) (a1 : Int32) (a2 : Int32) (a3 : Int32) (a4 : Int32) (h : ph_H) : Prop := (a1 = 3 → (vp_in a2 28 ∧ (vp_in a3 28 ∧ ((PX12_set a2 0 ((h 11 (a2.toNatClampNeg)) + (h 11 (a3.toNatClampNeg))) h) ∧ (PX12_work_88  (FX12_set a2 0 ((h 11 (a2.toNatClampNeg)) + (h 11 (a3.toNatClampNeg))) h)))))) ∧ (¬ a1 = 3 → ((a1 = 4 → (vp_in a2 28 ∧ (vp_in a3 28 ∧ ((PX12_set a2 0 ((h 11 (a2.toNatClampNeg)) - (h 11 (a3.toNatClampNeg))) h) ∧ (PX12_work_111  (FX12_set a2 0 ((h 11 (a2.toNatClampNeg)) - (h 11 (a3.toNatClampNeg))) h)))))) ∧ (¬ a1 = 4 → ((a1 = 5 → (vp_in a2 28 ∧ (vp_in a3 28 ∧ ((PX12_set a2 0 ((h 11 (a2.toNatClampNeg)) * (h 11 (a3.toNatClampNeg))) h) ∧ (PX12_work_134  (FX12_set a2 0 ((h 11 (a2.toNatClampNeg)) * (h 11 (a3.toNatClampNeg))) h)))))) ∧ (¬ a1 = 5 → ((a1 = 6 → (True)) ∧ (¬ a1 = 6 → ((a1 = 7 → (True)) ∧ (¬ a1 = 7 → ((a1 = 8 → (vp_in a3 28 ∧ ((PX12_newThing 1 (h 11 (a3.toNatClampNeg)) h) ∧ (PX12_work_152  ((FX12_newThing 1 (h 11 (a3.toNatClampNeg)) h).1) 1 a2 ((FX12_newThing 1 (h 11 (a3.toNatClampNeg)) h).2))))) ∧ (¬ a1 = 8 → ((a1 = 9 → (vp_in a3 28 ∧ (vp_in a4 28 ∧ (vp_in a3 28 ∧ (vp_in a4 28 ∧ (vp_in ((16 * (h 11 (a3.toNatClampNeg))) + (h 11 (a4.toNatClampNeg))) 192 ∧ ((PX12_set a2 0 (h 19 (((16 * (h 11 (a3.toNatClampNeg))) + (h 11 (a4.toNatClampNeg))).toNatClampNeg)) (hs h 0 29 ((100 + (20 * (h 11 (a3.toNatClampNeg)))) + (h 11 (a4.toNatClampNeg))))) ∧ (PX12_work_212  (FX12_set a2 0 (h 19 (((16 * (h 11 (a3.toNatClampNeg))) + (h 11 (a4.toNatClampNeg))).toNatClampNeg)) (hs h 0 29 ((100 + (20 * (h 11 (a3.toNatClampNeg)))) + (h 11 (a4.toNatClampNeg))))))))))))) ∧ (¬ a1 = 9 → ((a1 = 10 → (vp_in a2 28 ∧ (vp_in a3 28 ∧ (vp_in a2 28 ∧ (vp_in a3 28 ∧ (vp_in a4 28 ∧ (vp_in ((16 * (h 11 (a2.toNatClampNeg))) + (h 11 (a3.toNatClampNeg))) 192 ∧ (True)))))))) ∧ (¬ a1 = 10 → ((a1 = 11 → (True)) ∧ (¬ a1 = 11 → ((a1 = 12 → (vp_in a2 28 ∧ (vp_in (h 11 (a2.toNatClampNeg)) 12 ∧ (vp_in a2 28 ∧ (True))))) ∧ (¬ a1 = 12 → ((a1 = 13 → (vp_in a2 28 ∧ (vp_in (h 11 (a2.toNatClampNeg)) 12 ∧ (vp_in a2 28 ∧ (True))))) ∧ (¬ a1 = 13 → ((a1 = 14 → (vp_in a2 28 ∧ (vp_in (h 11 (a2.toNatClampNeg)) 12 ∧ (vp_in a2 28 ∧ (vp_in a0 4 ∧ (vp_in a2 28 ∧ (True))))))) ∧ (¬ a1 = 14 → ((a1 = 15 → (vp_in a2 28 ∧ (PX12_work_391 2000 a2 0 (hs (hs h 0 31 3) 0 32 (h 11 (a2.toNatClampNeg)))))) ∧ (¬ a1 = 15 → (True))))))))))))))))))))))))))
set_option maxRecDepth 100000 in
set_option maxHeartbeats 4000000 in
theorem tX12_work {X : fj_X} {Y : fj_Y} {l0 : Launch} {ad : Nat → Nat} (C : FC X Y l0 cX12_work 7 RX12 ({ frames := 1, cells := 0, slots := 0, locals := 24 } : Room) 0 0 none) (a0 : Int32) (a1 : Int32) (a2 : Int32) (a3 : Int32) (a4 : Int32) (h : ph_H) (hP : PX12_work a0 a1 a2 a3 a4 h) (hR : RETv X Y ad 50 SM cX12_work (FX12_work a0 a1 a2 a3 a4 h)) : FJ X Y ad 50 SM h 0 [(0, .ref (ad 0)), (1, .int a0), (2, .int a1), (3, .int a2), (4, .int a3), (5, .int a4)] [] := by
  unfold PX12_work at hP
  unfold FX12_work at hR
  refine j_iload_n C dX12_work_0 rfl rfl ?_
  rcases Classical.em (a1 = 3) with c0 | c0
  · have hP := hP.1 c0
    rw [if_pos c0] at hR
    refine j_tableIn (tgt := 68) (off := 67) C dX12_work_1 (by rw [c0]; decide) (by rw [c0]; decide) (by rw [c0]; decide) (by decide) ?_
    refine j_aload_n C dX12_work_68 rfl rfl ?_
    refine j_iload_n C dX12_work_69 rfl rfl ?_
    refine j_iconst (v := 0) C dX12_work_70 (by decide) ?_
    refine j_aload_n C dX12_work_71 rfl rfl ?_
    refine gM_40 C dX12_work_72 ?_
    refine j_iload_n C dX12_work_75 rfl rfl ?_
    obtain ⟨p6, hP⟩ := hP
    refine j_iald (k := 11) (v := (h 11 (a2.toNatClampNeg))) C dX12_work_76 (by decide) rfl p6 rfl ?_
    refine j_aload_n C dX12_work_77 rfl rfl ?_
    refine gM_40 C dX12_work_78 ?_
    refine j_iload C dX12_work_81 rfl ?_
    obtain ⟨p11, hP⟩ := hP
    refine j_iald (k := 11) (v := (h 11 (a3.toNatClampNeg))) C dX12_work_83 (by decide) rfl p11 rfl ?_
    refine j_iadd C dX12_work_84 ?_
    obtain ⟨p14, hP⟩ := hP
    refine j_callVv C (MX12_set a2 0 ((h 11 (a2.toNatClampNeg)) + (h 11 (a3.toNatClampNeg))) h p14) dX12_work_85 (CKX12_set (by decide)) ⟨rfl, rfl⟩ lk_RX12_221 in_X12_set se_X12_set (by decide) rfl rfl rfl (Nat.le_of_ble_eq_true rfl) ?_
    intro S' h' hq
    obtain ⟨rfl, rfl⟩ := hq
    exact j_vl (tX12_work_88 C  (FX12_set a2 0 ((h 11 (a2.toNatClampNeg)) + (h 11 (a3.toNatClampNeg))) h) hP hR) trivial
  have hP := hP.2 c0
  rw [if_neg c0] at hR
  rcases Classical.em (a1 = 4) with c1 | c1
  · have hP := hP.1 c1
    rw [if_pos c1] at hR
    refine j_tableIn (tgt := 91) (off := 90) C dX12_work_1 (by rw [c1]; decide) (by rw [c1]; decide) (by rw [c1]; decide) (by decide) ?_
    refine j_aload_n C dX12_work_91 rfl rfl ?_
    refine j_iload_n C dX12_work_92 rfl rfl ?_
    refine j_iconst (v := 0) C dX12_work_93 (by decide) ?_
    refine j_aload_n C dX12_work_94 rfl rfl ?_
    refine gM_40 C dX12_work_95 ?_
    refine j_iload_n C dX12_work_98 rfl rfl ?_
    obtain ⟨p6, hP⟩ := hP
    refine j_iald (k := 11) (v := (h 11 (a2.toNatClampNeg))) C dX12_work_99 (by decide) rfl p6 rfl ?_
    refine j_aload_n C dX12_work_100 rfl rfl ?_
    refine gM_40 C dX12_work_101 ?_
    refine j_iload C dX12_work_104 rfl ?_
    obtain ⟨p11, hP⟩ := hP
    refine j_iald (k := 11) (v := (h 11 (a3.toNatClampNeg))) C dX12_work_106 (by decide) rfl p11 rfl ?_
    refine j_isub C dX12_work_107 ?_
    obtain ⟨p14, hP⟩ := hP
    refine j_callVv C (MX12_set a2 0 ((h 11 (a2.toNatClampNeg)) - (h 11 (a3.toNatClampNeg))) h p14) dX12_work_108 (CKX12_set (by decide)) ⟨rfl, rfl⟩ lk_RX12_221 in_X12_set se_X12_set (by decide) rfl rfl rfl (Nat.le_of_ble_eq_true rfl) ?_
    intro S' h' hq
    obtain ⟨rfl, rfl⟩ := hq
    exact j_vl (tX12_work_111 C  (FX12_set a2 0 ((h 11 (a2.toNatClampNeg)) - (h 11 (a3.toNatClampNeg))) h) hP hR) trivial
  have hP := hP.2 c1
  rw [if_neg c1] at hR
  rcases Classical.em (a1 = 5) with c2 | c2
  · have hP := hP.1 c2
    rw [if_pos c2] at hR
    refine j_tableIn (tgt := 114) (off := 113) C dX12_work_1 (by rw [c2]; decide) (by rw [c2]; decide) (by rw [c2]; decide) (by decide) ?_
    refine j_aload_n C dX12_work_114 rfl rfl ?_
    refine j_iload_n C dX12_work_115 rfl rfl ?_
    refine j_iconst (v := 0) C dX12_work_116 (by decide) ?_
    refine j_aload_n C dX12_work_117 rfl rfl ?_
    refine gM_40 C dX12_work_118 ?_
    refine j_iload_n C dX12_work_121 rfl rfl ?_
    obtain ⟨p6, hP⟩ := hP
    refine j_iald (k := 11) (v := (h 11 (a2.toNatClampNeg))) C dX12_work_122 (by decide) rfl p6 rfl ?_
    refine j_aload_n C dX12_work_123 rfl rfl ?_
    refine gM_40 C dX12_work_124 ?_
    refine j_iload C dX12_work_127 rfl ?_
    obtain ⟨p11, hP⟩ := hP
    refine j_iald (k := 11) (v := (h 11 (a3.toNatClampNeg))) C dX12_work_129 (by decide) rfl p11 rfl ?_
    refine j_imul C dX12_work_130 ?_
    obtain ⟨p14, hP⟩ := hP
    refine j_callVv C (MX12_set a2 0 ((h 11 (a2.toNatClampNeg)) * (h 11 (a3.toNatClampNeg))) h p14) dX12_work_131 (CKX12_set (by decide)) ⟨rfl, rfl⟩ lk_RX12_221 in_X12_set se_X12_set (by decide) rfl rfl rfl (Nat.le_of_ble_eq_true rfl) ?_
    intro S' h' hq
    obtain ⟨rfl, rfl⟩ := hq
    exact j_vl (tX12_work_134 C  (FX12_set a2 0 ((h 11 (a2.toNatClampNeg)) * (h 11 (a3.toNatClampNeg))) h) hP hR) trivial
  have hP := hP.2 c2
  rw [if_neg c2] at hR
  rcases Classical.em (a1 = 6) with c3 | c3
  · have hP := hP.1 c3
    rw [if_pos c3] at hR
    refine j_tableIn (tgt := 444) (off := 443) C dX12_work_1 (by rw [c3]; decide) (by rw [c3]; decide) (by rw [c3]; decide) (by decide) ?_
    exact hR _ _ dX12_work_444
  have hP := hP.2 c3
  rw [if_neg c3] at hR
  rcases Classical.em (a1 = 7) with c4 | c4
  · have hP := hP.1 c4
    rw [if_pos c4] at hR
    refine j_tableIn (tgt := 444) (off := 443) C dX12_work_1 (by rw [c4]; decide) (by rw [c4]; decide) (by rw [c4]; decide) (by decide) ?_
    exact hR _ _ dX12_work_444
  have hP := hP.2 c4
  rw [if_neg c4] at hR
  rcases Classical.em (a1 = 8) with c5 | c5
  · have hP := hP.1 c5
    rw [if_pos c5] at hR
    refine j_tableIn (tgt := 137) (off := 136) C dX12_work_1 (by rw [c5]; decide) (by rw [c5]; decide) (by rw [c5]; decide) (by decide) ?_
    refine j_aload_n C dX12_work_137 rfl rfl ?_
    refine j_iload_n C dX12_work_138 rfl rfl ?_
    refine j_iconst (v := 1) C dX12_work_139 (by decide) ?_
    refine j_aload_n C dX12_work_140 rfl rfl ?_
    refine j_iconst (v := 1) C dX12_work_141 (by decide) ?_
    refine j_aload_n C dX12_work_142 rfl rfl ?_
    refine gM_40 C dX12_work_143 ?_
    refine j_iload C dX12_work_146 rfl ?_
    obtain ⟨p8, hP⟩ := hP
    refine j_iald (k := 11) (v := (h 11 (a3.toNatClampNeg))) C dX12_work_148 (by decide) rfl p8 rfl ?_
    obtain ⟨p10, hP⟩ := hP
    refine j_callV C (MX12_newThing 1 (h 11 (a3.toNatClampNeg)) h p10) dX12_work_149 (CKX12_newThing (by decide)) ⟨rfl, rfl⟩ lk_RX12_225 in_X12_newThing se_X12_newThing (by decide) rfl rfl rfl (Nat.le_of_ble_eq_true rfl) ?_
    intro r S' h' hq
    obtain ⟨rfl, rfl, rfl⟩ := hq
    exact j_vl (tX12_work_152 C  ((FX12_newThing 1 (h 11 (a3.toNatClampNeg)) h).1) 1 a2 ((FX12_newThing 1 (h 11 (a3.toNatClampNeg)) h).2) hP hR) trivial
  have hP := hP.2 c5
  rw [if_neg c5] at hR
  rcases Classical.em (a1 = 9) with c6 | c6
  · have hP := hP.1 c6
    rw [if_pos c6] at hR
    refine j_tableIn (tgt := 158) (off := 157) C dX12_work_1 (by rw [c6]; decide) (by rw [c6]; decide) (by rw [c6]; decide) (by decide) ?_
    refine j_aload_n C dX12_work_158 rfl rfl ?_
    refine j_bipush (v := 100) C dX12_work_159 (by decide) ?_
    refine j_bipush (v := 20) C dX12_work_161 (by decide) ?_
    refine j_aload_n C dX12_work_163 rfl rfl ?_
    refine gM_40 C dX12_work_164 ?_
    refine j_iload C dX12_work_167 rfl ?_
    obtain ⟨p6, hP⟩ := hP
    refine j_iald (k := 11) (v := (h 11 (a3.toNatClampNeg))) C dX12_work_169 (by decide) rfl p6 rfl ?_
    refine j_imul C dX12_work_170 ?_
    refine j_iadd C dX12_work_171 ?_
    refine j_aload_n C dX12_work_172 rfl rfl ?_
    refine gM_40 C dX12_work_173 ?_
    refine j_iload C dX12_work_176 rfl ?_
    obtain ⟨p13, hP⟩ := hP
    refine j_iald (k := 11) (v := (h 11 (a4.toNatClampNeg))) C dX12_work_178 (by decide) rfl p13 rfl ?_
    refine j_iadd C dX12_work_179 ?_
    refine pM_228 C dX12_work_180 ?_
    refine j_aload_n C dX12_work_183 rfl rfl ?_
    refine j_iload_n C dX12_work_184 rfl rfl ?_
    refine j_iconst (v := 0) C dX12_work_185 (by decide) ?_
    refine j_aload_n C dX12_work_186 rfl rfl ?_
    refine gM_65 C dX12_work_187 ?_
    refine j_bipush (v := 16) C dX12_work_190 (by decide) ?_
    refine j_aload_n C dX12_work_192 rfl rfl ?_
    refine gM_40 C dX12_work_193 ?_
    refine j_iload C dX12_work_196 rfl ?_
    obtain ⟨p26, hP⟩ := hP
    refine j_iald (k := 11) (v := (h 11 (a3.toNatClampNeg))) C dX12_work_198 (by decide) rfl p26 (hz_k (by decide)) ?_
    refine j_imul C dX12_work_199 ?_
    refine j_aload_n C dX12_work_200 rfl rfl ?_
    refine gM_40 C dX12_work_201 ?_
    refine j_iload C dX12_work_204 rfl ?_
    obtain ⟨p32, hP⟩ := hP
    refine j_iald (k := 11) (v := (h 11 (a4.toNatClampNeg))) C dX12_work_206 (by decide) rfl p32 (hz_k (by decide)) ?_
    refine j_iadd C dX12_work_207 ?_
    obtain ⟨p35, hP⟩ := hP
    refine j_iald (k := 19) (v := (h 19 (((16 * (h 11 (a3.toNatClampNeg))) + (h 11 (a4.toNatClampNeg))).toNatClampNeg))) C dX12_work_208 (by decide) rfl p35 (hz_k (by decide)) ?_
    obtain ⟨p37, hP⟩ := hP
    refine j_callVv C (MX12_set a2 0 (h 19 (((16 * (h 11 (a3.toNatClampNeg))) + (h 11 (a4.toNatClampNeg))).toNatClampNeg)) (hs h 0 29 ((100 + (20 * (h 11 (a3.toNatClampNeg)))) + (h 11 (a4.toNatClampNeg)))) p37) dX12_work_209 (CKX12_set (by decide)) ⟨rfl, rfl⟩ lk_RX12_221 in_X12_set se_X12_set (by decide) rfl rfl rfl (Nat.le_of_ble_eq_true rfl) ?_
    intro S' h' hq
    obtain ⟨rfl, rfl⟩ := hq
    exact j_vl (tX12_work_212 C  (FX12_set a2 0 (h 19 (((16 * (h 11 (a3.toNatClampNeg))) + (h 11 (a4.toNatClampNeg))).toNatClampNeg)) (hs h 0 29 ((100 + (20 * (h 11 (a3.toNatClampNeg)))) + (h 11 (a4.toNatClampNeg))))) hP hR) trivial
  have hP := hP.2 c6
  rw [if_neg c6] at hR
  rcases Classical.em (a1 = 10) with c7 | c7
  · have hP := hP.1 c7
    rw [if_pos c7] at hR
    refine j_tableIn (tgt := 215) (off := 214) C dX12_work_1 (by rw [c7]; decide) (by rw [c7]; decide) (by rw [c7]; decide) (by decide) ?_
    refine j_aload_n C dX12_work_215 rfl rfl ?_
    refine j_bipush (v := 100) C dX12_work_216 (by decide) ?_
    refine j_bipush (v := 20) C dX12_work_218 (by decide) ?_
    refine j_aload_n C dX12_work_220 rfl rfl ?_
    refine gM_40 C dX12_work_221 ?_
    refine j_iload_n C dX12_work_224 rfl rfl ?_
    obtain ⟨p6, hP⟩ := hP
    refine j_iald (k := 11) (v := (h 11 (a2.toNatClampNeg))) C dX12_work_225 (by decide) rfl p6 rfl ?_
    refine j_imul C dX12_work_226 ?_
    refine j_iadd C dX12_work_227 ?_
    refine j_aload_n C dX12_work_228 rfl rfl ?_
    refine gM_40 C dX12_work_229 ?_
    refine j_iload C dX12_work_232 rfl ?_
    obtain ⟨p13, hP⟩ := hP
    refine j_iald (k := 11) (v := (h 11 (a3.toNatClampNeg))) C dX12_work_234 (by decide) rfl p13 rfl ?_
    refine j_iadd C dX12_work_235 ?_
    refine pM_231 C dX12_work_236 ?_
    refine j_aload_n C dX12_work_239 rfl rfl ?_
    refine gM_65 C dX12_work_240 ?_
    refine j_bipush (v := 16) C dX12_work_243 (by decide) ?_
    refine j_aload_n C dX12_work_245 rfl rfl ?_
    refine gM_40 C dX12_work_246 ?_
    refine j_iload_n C dX12_work_249 rfl rfl ?_
    obtain ⟨p23, hP⟩ := hP
    refine j_iald (k := 11) (v := (h 11 (a2.toNatClampNeg))) C dX12_work_250 (by decide) rfl p23 (hz_k (by decide)) ?_
    refine j_imul C dX12_work_251 ?_
    refine j_aload_n C dX12_work_252 rfl rfl ?_
    refine gM_40 C dX12_work_253 ?_
    refine j_iload C dX12_work_256 rfl ?_
    obtain ⟨p29, hP⟩ := hP
    refine j_iald (k := 11) (v := (h 11 (a3.toNatClampNeg))) C dX12_work_258 (by decide) rfl p29 (hz_k (by decide)) ?_
    refine j_iadd C dX12_work_259 ?_
    refine j_aload_n C dX12_work_260 rfl rfl ?_
    refine gM_40 C dX12_work_261 ?_
    refine j_iload C dX12_work_264 rfl ?_
    obtain ⟨p35, hP⟩ := hP
    refine j_iald (k := 11) (v := (h 11 (a4.toNatClampNeg))) C dX12_work_266 (by decide) rfl p35 (hz_k (by decide)) ?_
    obtain ⟨p37, hP⟩ := hP
    refine j_iast (k := 19) C dX12_work_267 (by decide) rfl p37 ?_
    refine j_goto (tgt := 444) C dX12_work_268 (by decide) ?_
    exact hR _ _ dX12_work_444
  have hP := hP.2 c7
  rw [if_neg c7] at hR
  rcases Classical.em (a1 = 11) with c8 | c8
  · have hP := hP.1 c8
    rw [if_pos c8] at hR
    refine j_tableIn (tgt := 444) (off := 443) C dX12_work_1 (by rw [c8]; decide) (by rw [c8]; decide) (by rw [c8]; decide) (by decide) ?_
    exact hR _ _ dX12_work_444
  have hP := hP.2 c8
  rw [if_neg c8] at hR
  rcases Classical.em (a1 = 12) with c9 | c9
  · have hP := hP.1 c9
    rw [if_pos c9] at hR
    refine j_tableIn (tgt := 271) (off := 270) C dX12_work_1 (by rw [c9]; decide) (by rw [c9]; decide) (by rw [c9]; decide) (by decide) ?_
    refine j_aload_n C dX12_work_271 rfl rfl ?_
    refine gM_59 C dX12_work_272 ?_
    refine j_aload_n C dX12_work_275 rfl rfl ?_
    refine gM_40 C dX12_work_276 ?_
    refine j_iload_n C dX12_work_279 rfl rfl ?_
    obtain ⟨p5, hP⟩ := hP
    refine j_iald (k := 11) (v := (h 11 (a2.toNatClampNeg))) C dX12_work_280 (by decide) rfl p5 rfl ?_
    refine j_iload_n C dX12_work_281 rfl rfl ?_
    obtain ⟨p8, hP⟩ := hP
    refine j_iast (k := 17) C dX12_work_282 (by decide) rfl p8 ?_
    refine j_aload_n C dX12_work_283 rfl rfl ?_
    refine j_iconst (v := 1) C dX12_work_284 (by decide) ?_
    refine pM_234 C dX12_work_285 ?_
    refine j_aload_n C dX12_work_288 rfl rfl ?_
    refine j_aload_n C dX12_work_289 rfl rfl ?_
    refine gM_40 C dX12_work_290 ?_
    refine j_iload_n C dX12_work_293 rfl rfl ?_
    obtain ⟨p17, hP⟩ := hP
    refine j_iald (k := 11) (v := (h 11 (a2.toNatClampNeg))) C dX12_work_294 (by decide) rfl p17 ((hz_k (by decide)).trans (hz_k (by decide))) ?_
    refine pM_237 C dX12_work_295 ?_
    refine j_goto (tgt := 444) C dX12_work_298 (by decide) ?_
    exact hR _ _ dX12_work_444
  have hP := hP.2 c9
  rw [if_neg c9] at hR
  rcases Classical.em (a1 = 13) with c10 | c10
  · have hP := hP.1 c10
    rw [if_pos c10] at hR
    refine j_tableIn (tgt := 301) (off := 300) C dX12_work_1 (by rw [c10]; decide) (by rw [c10]; decide) (by rw [c10]; decide) (by decide) ?_
    refine j_aload_n C dX12_work_301 rfl rfl ?_
    refine gM_59 C dX12_work_302 ?_
    refine j_aload_n C dX12_work_305 rfl rfl ?_
    refine gM_40 C dX12_work_306 ?_
    refine j_iload_n C dX12_work_309 rfl rfl ?_
    obtain ⟨p5, hP⟩ := hP
    refine j_iald (k := 11) (v := (h 11 (a2.toNatClampNeg))) C dX12_work_310 (by decide) rfl p5 rfl ?_
    refine j_iconst (v := (-1)) C dX12_work_311 (by decide) ?_
    obtain ⟨p8, hP⟩ := hP
    refine j_iast (k := 17) C dX12_work_312 (by decide) rfl p8 ?_
    refine j_aload_n C dX12_work_313 rfl rfl ?_
    refine j_iconst (v := 2) C dX12_work_314 (by decide) ?_
    refine pM_234 C dX12_work_315 ?_
    refine j_aload_n C dX12_work_318 rfl rfl ?_
    refine j_aload_n C dX12_work_319 rfl rfl ?_
    refine gM_40 C dX12_work_320 ?_
    refine j_iload_n C dX12_work_323 rfl rfl ?_
    obtain ⟨p17, hP⟩ := hP
    refine j_iald (k := 11) (v := (h 11 (a2.toNatClampNeg))) C dX12_work_324 (by decide) rfl p17 ((hz_k (by decide)).trans (hz_k (by decide))) ?_
    refine pM_237 C dX12_work_325 ?_
    refine j_goto (tgt := 444) C dX12_work_328 (by decide) ?_
    exact hR _ _ dX12_work_444
  have hP := hP.2 c10
  rw [if_neg c10] at hR
  rcases Classical.em (a1 = 14) with c11 | c11
  · have hP := hP.1 c11
    rw [if_pos c11] at hR
    refine j_tableIn (tgt := 331) (off := 330) C dX12_work_1 (by rw [c11]; decide) (by rw [c11]; decide) (by rw [c11]; decide) (by decide) ?_
    refine j_aload_n C dX12_work_331 rfl rfl ?_
    refine gM_59 C dX12_work_332 ?_
    refine j_aload_n C dX12_work_335 rfl rfl ?_
    refine gM_40 C dX12_work_336 ?_
    refine j_iload_n C dX12_work_339 rfl rfl ?_
    obtain ⟨p5, hP⟩ := hP
    refine j_iald (k := 11) (v := (h 11 (a2.toNatClampNeg))) C dX12_work_340 (by decide) rfl p5 rfl ?_
    refine j_iconst (v := (-1)) C dX12_work_341 (by decide) ?_
    obtain ⟨p8, hP⟩ := hP
    refine j_iast (k := 17) C dX12_work_342 (by decide) rfl p8 ?_
    refine j_aload_n C dX12_work_343 rfl rfl ?_
    refine gM_50 C dX12_work_344 ?_
    refine j_iload_n C dX12_work_347 rfl rfl ?_
    refine j_aload_n C dX12_work_348 rfl rfl ?_
    refine gM_40 C dX12_work_349 ?_
    refine j_iload_n C dX12_work_352 rfl rfl ?_
    obtain ⟨p16, hP⟩ := hP
    refine j_iald (k := 11) (v := (h 11 (a2.toNatClampNeg))) C dX12_work_353 (by decide) rfl p16 (hz_k (by decide)) ?_
    obtain ⟨p18, hP⟩ := hP
    refine j_iast (k := 14) C dX12_work_354 (by decide) rfl p18 ?_
    refine j_aload_n C dX12_work_355 rfl rfl ?_
    refine j_iconst (v := 2) C dX12_work_356 (by decide) ?_
    refine pM_234 C dX12_work_357 ?_
    refine j_aload_n C dX12_work_360 rfl rfl ?_
    refine j_aload_n C dX12_work_361 rfl rfl ?_
    refine gM_40 C dX12_work_362 ?_
    refine j_iload_n C dX12_work_365 rfl rfl ?_
    obtain ⟨p27, hP⟩ := hP
    refine j_iald (k := 11) (v := (h 11 (a2.toNatClampNeg))) C dX12_work_366 (by decide) rfl p27 ((hz_k (by decide)).trans ((hz_k (by decide)).trans (hz_k (by decide)))) ?_
    refine pM_237 C dX12_work_367 ?_
    refine j_goto (tgt := 444) C dX12_work_370 (by decide) ?_
    exact hR _ _ dX12_work_444
  have hP := hP.2 c11
  rw [if_neg c11] at hR
  rcases Classical.em (a1 = 15) with c12 | c12
  · have hP := hP.1 c12
    rw [if_pos c12] at hR
    refine j_tableIn (tgt := 373) (off := 372) C dX12_work_1 (by rw [c12]; decide) (by rw [c12]; decide) (by rw [c12]; decide) (by decide) ?_
    refine j_aload_n C dX12_work_373 rfl rfl ?_
    refine j_iconst (v := 3) C dX12_work_374 (by decide) ?_
    refine pM_234 C dX12_work_375 ?_
    refine j_aload_n C dX12_work_378 rfl rfl ?_
    refine j_aload_n C dX12_work_379 rfl rfl ?_
    refine gM_40 C dX12_work_380 ?_
    refine j_iload_n C dX12_work_383 rfl rfl ?_
    obtain ⟨p7, hP⟩ := hP
    refine j_iald (k := 11) (v := (h 11 (a2.toNatClampNeg))) C dX12_work_384 (by decide) rfl p7 (hz_k (by decide)) ?_
    refine pM_237 C dX12_work_385 ?_
    refine j_iconst (v := 0) C dX12_work_388 (by decide) ?_
    refine j_istore C dX12_work_389 (by decide) rfl ?_
    exact j_vl (tX12_work_391 C 2000 a2 0 (hs (hs h 0 31 3) 0 32 (h 11 (a2.toNatClampNeg))) hP hR) ⟨rfl, rfl, rfl, trivial⟩
  have hP := hP.2 c12
  rw [if_neg c12] at hR
  refine j_tableOut (tgt := 444) C dX12_work_1 (sw_out (fun v h1 h2 e => by rcases (show v = 3 ∨ v = 4 ∨ v = 5 ∨ v = 6 ∨ v = 7 ∨ v = 8 ∨ v = 9 ∨ v = 10 ∨ v = 11 ∨ v = 12 ∨ v = 13 ∨ v = 14 ∨ v = 15 by omega) with z | z | z | z | z | z | z | z | z | z | z | z | z <;> rw [z] at e <;> first | exact c0 (e.trans (by decide)) | exact c1 (e.trans (by decide)) | exact c2 (e.trans (by decide)) | exact c3 (e.trans (by decide)) | exact c4 (e.trans (by decide)) | exact c5 (e.trans (by decide)) | exact c6 (e.trans (by decide)) | exact c7 (e.trans (by decide)) | exact c8 (e.trans (by decide)) | exact c9 (e.trans (by decide)) | exact c10 (e.trans (by decide)) | exact c11 (e.trans (by decide)) | exact c12 (e.trans (by decide)))) (by decide) ?_
  exact hR _ _ dX12_work_444
theorem MX12_work {l0 : Launch} {Y : fj_Y} {ad : Nat → Nat} (a0 : Int32) (a1 : Int32) (a2 : Int32) (a3 : Int32) (a4 : Int32) (h : ph_H) (hP : PX12_work a0 a1 a2 a3 a4 h) : MV l0 yX12_work cX12_work 7 ({ frames := 1, cells := 0, slots := 0, locals := 24 } : Room) Y ad 50 SM h [.ref (ad 0), .int a0, .int a1, .int a2, .int a3, .int a4] (fun S' h' => S' = SM ∧ h' = FX12_work a0 a1 a2 a3 a4 h) := met_v (by decide) (Nat.le_of_ble_eq_true rfl) (fun X C K => j_vl (tX12_work C a0 a1 a2 a3 a4 h hP (fun pc lv hd => K _ _ ⟨rfl, rfl⟩ pc lv hd)) ⟨rfl, rfl, rfl, rfl, rfl, rfl, trivial⟩)
