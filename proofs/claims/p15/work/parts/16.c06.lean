-- X3_putCell_oc1
def FX3_putCell_oc1 (a0 : Int32) (a1 : Int32) (h : ph_H) : Int32 × ph_H := ((FX3_hold_oc1 a0 (h 26 (a1.toNatClampNeg)) (h 27 (a1.toNatClampNeg)) (hs h 25 15 a0)).1, (FX3_hold_oc1 a0 (h 26 (a1.toNatClampNeg)) (h 27 (a1.toNatClampNeg)) (hs h 25 15 a0)).2)
def PX3_putCell_oc1 (a0 : Int32) (a1 : Int32) (h : ph_H) : Prop := vp_in a1 28 ∧ (vp_in a1 28 ∧ ((PX3_hold_oc1 a0 (h 26 (a1.toNatClampNeg)) (h 27 (a1.toNatClampNeg)) (hs h 25 15 a0)) ∧ (True)))
set_option maxRecDepth 100000 in
set_option maxHeartbeats 4000000 in
theorem tX3_putCell_oc1 {X : fj_X} {Y : fj_Y} {l0 : Launch} {ad : Nat → Nat} {n : Nat} {S : ph_S} (W : WS 1 n S) (C : FC X Y l0 cX3_putCell 3 RX3 ({ frames := 1, cells := 0, slots := 0, locals := 23 } : Room) 0 0 (some .int)) (a0 : Int32) (a1 : Int32) (h : ph_H) (hP : PX3_putCell_oc1 a0 a1 h) (hR : RETi X Y ad n S cX3_putCell (FX3_putCell_oc1 a0 a1 h)) : FJ X Y ad n S h 0 [(0, .ref (ad 25)), (1, .int a0), (2, .int a1)] [] := by
  unfold PX3_putCell_oc1 at hP
  unfold FX3_putCell_oc1 at hR
  refine j_aload_n C dX3_putCell_0 rfl rfl ?_
  refine j_iload_n C dX3_putCell_1 rfl rfl ?_
  refine pCRX3_117 C dX3_putCell_2 (W.lt 25 (by decide)) (sh_25 W) rfl ?_
  refine j_aload_n C dX3_putCell_5 rfl rfl ?_
  refine j_iload_n C dX3_putCell_6 rfl rfl ?_
  refine j_aload_n C dX3_putCell_7 rfl rfl ?_
  refine gCRX3_9 C dX3_putCell_8 (W.lt 25 (by decide)) (sh_25 W) rfl ?_
  refine j_iload_n C dX3_putCell_11 rfl rfl ?_
  obtain ⟨p8, hP⟩ := hP
  refine j_iald (k := 26) (v := (h 26 (a1.toNatClampNeg))) C dX3_putCell_12 (W.lt 26 (by decide)) (sh_26 W) p8 (hz_k (by decide)) ?_
  refine j_aload_n C dX3_putCell_13 rfl rfl ?_
  refine gCRX3_15 C dX3_putCell_14 (W.lt 25 (by decide)) (sh_25 W) rfl ?_
  refine j_iload_n C dX3_putCell_17 rfl rfl ?_
  obtain ⟨p13, hP⟩ := hP
  refine j_iald (k := 27) (v := (h 27 (a1.toNatClampNeg))) C dX3_putCell_18 (W.lt 27 (by decide)) (sh_27 W) p13 (hz_k (by decide)) ?_
  obtain ⟨p15, hP⟩ := hP
  refine j_callV C (MX3_hold_oc1 W a0 (h 26 (a1.toNatClampNeg)) (h 27 (a1.toNatClampNeg)) (hs h 25 15 a0) p15) dX3_putCell_19 (CKX3_hold (by decide)) ⟨rfl, rfl⟩ lk_RX3_135 in_X3_hold se_X3_hold (W.lt 25 (by decide)) (sh_25 W) rfl rfl (Nat.le_of_ble_eq_true rfl) ?_
  intro r S' h' hq
  obtain ⟨e1, e2, e3⟩ := hq
  rw [e1, e2, e3]
  exact RETi_u hR _ _ dX3_putCell_22
theorem MX3_putCell_oc1 {l0 : Launch} {Y : fj_Y} {ad : Nat → Nat} {n : Nat} {S : ph_S} (W : WS 1 n S) (a0 : Int32) (a1 : Int32) (h : ph_H) (hP : PX3_putCell_oc1 a0 a1 h) : MI l0 yX3_putCell cX3_putCell 3 (some .int) ({ frames := 1, cells := 0, slots := 0, locals := 23 } : Room) Y ad n S h [.ref (ad 25), .int a0, .int a1] (fun r S' h' => S' = S ∧ h' = (FX3_putCell_oc1 a0 a1 h).2 ∧ r = (FX3_putCell_oc1 a0 a1 h).1) := met_i (by decide) (Nat.le_of_ble_eq_true rfl) (fun _ _ _ _ => rfl) (fun X C K => j_vl (tX3_putCell_oc1 W C a0 a1 h hP (fun pc lv hd => K _ _ _ ⟨rfl, rfl, rfl⟩ pc lv hd)) ⟨rfl, rfl, rfl, trivial⟩)

-- X3_hasRowPlace_oc1
def FX3_hasRowPlace_oc1 (a0 : Int32) (a1 : Int32) (h : ph_H) : Int32 := if a0 < 0 then (0) else (if (h 25 10) ≤ a0 then (0) else (if (h 31 (a0.toNatClampNeg)) = 1 then (if a1 < 0 then (0) else (if (h 32 (a0.toNatClampNeg)) ≤ a1 then (0) else (1))) else (0)))
def PX3_hasRowPlace_oc1 (a0 : Int32) (a1 : Int32) (h : ph_H) : Prop := (a0 < 0 → (True)) ∧ (¬ a0 < 0 → (((h 25 10) ≤ a0 → (True)) ∧ (¬ (h 25 10) ≤ a0 → (vp_in a0 12 ∧ (((h 31 (a0.toNatClampNeg)) = 1 → ((a1 < 0 → (True)) ∧ (¬ a1 < 0 → (vp_in a0 12 ∧ (((h 32 (a0.toNatClampNeg)) ≤ a1 → (True)) ∧ (¬ (h 32 (a0.toNatClampNeg)) ≤ a1 → (True))))))) ∧ (¬ (h 31 (a0.toNatClampNeg)) = 1 → (True)))))))
set_option maxRecDepth 100000 in
set_option maxHeartbeats 4000000 in
theorem tX3_hasRowPlace_oc1 {X : fj_X} {Y : fj_Y} {l0 : Launch} {ad : Nat → Nat} {n : Nat} {S : ph_S} (W : WS 1 n S) (C : FC X Y l0 cX3_hasRowPlace 3 RX3 ({ frames := 0, cells := 0, slots := 0, locals := 0 } : Room) 0 0 (some .boolean)) (a0 : Int32) (a1 : Int32) (h : ph_H) (hP : PX3_hasRowPlace_oc1 a0 a1 h) (hR : RETq X Y ad n S h cX3_hasRowPlace (FX3_hasRowPlace_oc1 a0 a1 h)) : FJ X Y ad n S h 0 [(0, .ref (ad 25)), (1, .int a0), (2, .int a1)] [] := by
  unfold PX3_hasRowPlace_oc1 at hP
  unfold FX3_hasRowPlace_oc1 at hR
  refine j_iload_n C dX3_hasRowPlace_0 rfl rfl ?_
  refine j_if_lt (tgt := 40) C dX3_hasRowPlace_1 (by decide) (fun c0 => ?_) (fun c0 => ?_)
  · have hP := hP.1 c0
    rw [if_pos c0] at hR
    refine j_iconst (v := 0) C dX3_hasRowPlace_40 (by decide) ?_
    exact hR bo_0 _ _ dX3_hasRowPlace_41
  · have hP := hP.2 c0
    rw [if_neg c0] at hR
    refine j_iload_n C dX3_hasRowPlace_4 rfl rfl ?_
    refine j_aload_n C dX3_hasRowPlace_5 rfl rfl ?_
    refine gCRX3_60 (v := (h 25 10)) C dX3_hasRowPlace_6 (W.lt 25 (by decide)) (sh_25 W) rfl rfl ?_
    refine j_icmp_ge (tgt := 40) C dX3_hasRowPlace_9 (by decide) (fun c1 => ?_) (fun c1 => ?_)
    · have hP := hP.1 c1
      rw [if_pos c1] at hR
      refine j_iconst (v := 0) C dX3_hasRowPlace_40 (by decide) ?_
      exact hR bo_0 _ _ dX3_hasRowPlace_41
    · have hP := hP.2 c1
      rw [if_neg c1] at hR
      refine j_aload_n C dX3_hasRowPlace_12 rfl rfl ?_
      refine gCRX3_27 C dX3_hasRowPlace_13 (W.lt 25 (by decide)) (sh_25 W) rfl ?_
      refine j_iload_n C dX3_hasRowPlace_16 rfl rfl ?_
      obtain ⟨p3, hP⟩ := hP
      refine j_iald (k := 31) (v := (h 31 (a0.toNatClampNeg))) C dX3_hasRowPlace_17 (W.lt 31 (by decide)) (sh_31 W) p3 rfl ?_
      refine j_iconst (v := 1) C dX3_hasRowPlace_18 (by decide) ?_
      refine j_icmp_ne (tgt := 40) C dX3_hasRowPlace_19 (by decide) (fun c2 => ?_) (fun c2 => ?_)
      · have hP := hP.2 c2
        rw [if_neg c2] at hR
        refine j_iconst (v := 0) C dX3_hasRowPlace_40 (by decide) ?_
        exact hR bo_0 _ _ dX3_hasRowPlace_41
      · have hP := hP.1 c2
        rw [if_pos c2] at hR
        refine j_iload_n C dX3_hasRowPlace_22 rfl rfl ?_
        refine j_if_lt (tgt := 40) C dX3_hasRowPlace_23 (by decide) (fun c3 => ?_) (fun c3 => ?_)
        · have hP := hP.1 c3
          rw [if_pos c3] at hR
          refine j_iconst (v := 0) C dX3_hasRowPlace_40 (by decide) ?_
          exact hR bo_0 _ _ dX3_hasRowPlace_41
        · have hP := hP.2 c3
          rw [if_neg c3] at hR
          refine j_iload_n C dX3_hasRowPlace_26 rfl rfl ?_
          refine j_aload_n C dX3_hasRowPlace_27 rfl rfl ?_
          refine gCRX3_30 C dX3_hasRowPlace_28 (W.lt 25 (by decide)) (sh_25 W) rfl ?_
          refine j_iload_n C dX3_hasRowPlace_31 rfl rfl ?_
          obtain ⟨p4, hP⟩ := hP
          refine j_iald (k := 32) (v := (h 32 (a0.toNatClampNeg))) C dX3_hasRowPlace_32 (W.lt 32 (by decide)) (sh_32 W) p4 rfl ?_
          refine j_icmp_ge (tgt := 40) C dX3_hasRowPlace_33 (by decide) (fun c4 => ?_) (fun c4 => ?_)
          · have hP := hP.1 c4
            rw [if_pos c4] at hR
            refine j_iconst (v := 0) C dX3_hasRowPlace_40 (by decide) ?_
            exact hR bo_0 _ _ dX3_hasRowPlace_41
          · have hP := hP.2 c4
            rw [if_neg c4] at hR
            refine j_iconst (v := 1) C dX3_hasRowPlace_36 (by decide) ?_
            refine j_goto (tgt := 41) C dX3_hasRowPlace_37 (by decide) ?_
            exact hR bo_1 _ _ dX3_hasRowPlace_41
theorem MX3_hasRowPlace_oc1 {l0 : Launch} {Y : fj_Y} {ad : Nat → Nat} {n : Nat} {S : ph_S} (W : WS 1 n S) (a0 : Int32) (a1 : Int32) (h : ph_H) (hP : PX3_hasRowPlace_oc1 a0 a1 h) : MI l0 yX3_hasRowPlace cX3_hasRowPlace 3 (some .boolean) ({ frames := 0, cells := 0, slots := 0, locals := 0 } : Room) Y ad n S h [.ref (ad 25), .int a0, .int a1] (fun r S' h' => S' = S ∧ h' = h ∧ r = FX3_hasRowPlace_oc1 a0 a1 h ∧ bo r) := met_i (by decide) (Nat.le_of_ble_eq_true rfl) (fun _ _ _ q => bo_n q.2.2.2) (fun X C K => j_vl (tX3_hasRowPlace_oc1 W C a0 a1 h hP (fun b pc lv hd => K _ _ _ ⟨rfl, rfl, rfl, b⟩ pc lv hd)) ⟨rfl, rfl, rfl, trivial⟩)

-- X3_readRow_oc1
def FX3_readRow_oc1 (a0 : Int32) (a1 : Int32) (a2 : Int32) (h : ph_H) : Int32 × ph_H := if (h 26 (a1.toNatClampNeg)) = 1 then (if (h 26 (a2.toNatClampNeg)) = 0 then (if (FX3_hasRowPlace_oc1 (h 27 (a1.toNatClampNeg)) (h 27 (a2.toNatClampNeg)) h) = 0 then ((4, h)) else (((FX3_hold_oc1 a0 0 (h 34 ((((h 27 (a1.toNatClampNeg)) * 16) + (h 27 (a2.toNatClampNeg))).toNatClampNeg)) (hs h 25 14 ((100 + ((h 27 (a1.toNatClampNeg)) * 20)) + (h 27 (a2.toNatClampNeg))))).1, (FX3_hold_oc1 a0 0 (h 34 ((((h 27 (a1.toNatClampNeg)) * 16) + (h 27 (a2.toNatClampNeg))).toNatClampNeg)) (hs h 25 14 ((100 + ((h 27 (a1.toNatClampNeg)) * 20)) + (h 27 (a2.toNatClampNeg))))).2))) else ((1, h))) else ((1, h))
def PX3_readRow_oc1 (a0 : Int32) (a1 : Int32) (a2 : Int32) (h : ph_H) : Prop := vp_in a1 28 ∧ (((h 26 (a1.toNatClampNeg)) = 1 → (vp_in a2 28 ∧ (((h 26 (a2.toNatClampNeg)) = 0 → (vp_in a1 28 ∧ (vp_in a2 28 ∧ ((PX3_hasRowPlace_oc1 (h 27 (a1.toNatClampNeg)) (h 27 (a2.toNatClampNeg)) h) ∧ (((FX3_hasRowPlace_oc1 (h 27 (a1.toNatClampNeg)) (h 27 (a2.toNatClampNeg)) h) = 0 → (True)) ∧ (¬ (FX3_hasRowPlace_oc1 (h 27 (a1.toNatClampNeg)) (h 27 (a2.toNatClampNeg)) h) = 0 → (vp_in (((h 27 (a1.toNatClampNeg)) * 16) + (h 27 (a2.toNatClampNeg))) 192 ∧ ((PX3_hold_oc1 a0 0 (h 34 ((((h 27 (a1.toNatClampNeg)) * 16) + (h 27 (a2.toNatClampNeg))).toNatClampNeg)) (hs h 25 14 ((100 + ((h 27 (a1.toNatClampNeg)) * 20)) + (h 27 (a2.toNatClampNeg))))) ∧ (True))))))))) ∧ (¬ (h 26 (a2.toNatClampNeg)) = 0 → (True))))) ∧ (¬ (h 26 (a1.toNatClampNeg)) = 1 → (True)))
set_option maxRecDepth 100000 in
set_option maxHeartbeats 4000000 in
theorem tX3_readRow_oc1 {X : fj_X} {Y : fj_Y} {l0 : Launch} {ad : Nat → Nat} {n : Nat} {S : ph_S} (W : WS 1 n S) (C : FC X Y l0 cX3_readRow 6 RX3 ({ frames := 1, cells := 0, slots := 0, locals := 23 } : Room) 0 0 (some .int)) (a0 : Int32) (a1 : Int32) (a2 : Int32) (h : ph_H) (hP : PX3_readRow_oc1 a0 a1 a2 h) (hR : RETi X Y ad n S cX3_readRow (FX3_readRow_oc1 a0 a1 a2 h)) : FJ X Y ad n S h 0 [(0, .ref (ad 25)), (1, .int a0), (2, .int a1), (3, .int a2)] [] := by
  unfold PX3_readRow_oc1 at hP
  unfold FX3_readRow_oc1 at hR
  refine j_aload_n C dX3_readRow_0 rfl rfl ?_
  refine gCRX3_9 C dX3_readRow_1 (W.lt 25 (by decide)) (sh_25 W) rfl ?_
  refine j_iload_n C dX3_readRow_4 rfl rfl ?_
  obtain ⟨p3, hP⟩ := hP
  refine j_iald (k := 26) (v := (h 26 (a1.toNatClampNeg))) C dX3_readRow_5 (W.lt 26 (by decide)) (sh_26 W) p3 rfl ?_
  refine j_iconst (v := 1) C dX3_readRow_6 (by decide) ?_
  refine j_icmp_ne (tgt := 19) C dX3_readRow_7 (by decide) (fun c0 => ?_) (fun c0 => ?_)
  · have hP := hP.2 c0
    rw [if_neg c0] at hR
    refine j_iconst (v := 1) C dX3_readRow_19 (by decide) ?_
    exact RETi_u hR _ _ dX3_readRow_20
  · have hP := hP.1 c0
    rw [if_pos c0] at hR
    refine j_aload_n C dX3_readRow_10 rfl rfl ?_
    refine gCRX3_9 C dX3_readRow_11 (W.lt 25 (by decide)) (sh_25 W) rfl ?_
    refine j_iload_n C dX3_readRow_14 rfl rfl ?_
    obtain ⟨p3, hP⟩ := hP
    refine j_iald (k := 26) (v := (h 26 (a2.toNatClampNeg))) C dX3_readRow_15 (W.lt 26 (by decide)) (sh_26 W) p3 rfl ?_
    refine j_if_eq (tgt := 21) C dX3_readRow_16 (by decide) (fun c1 => ?_) (fun c1 => ?_)
    · have hP := hP.1 c1
      rw [if_pos c1] at hR
      refine j_aload_n C dX3_readRow_21 rfl rfl ?_
      refine gCRX3_15 C dX3_readRow_22 (W.lt 25 (by decide)) (sh_25 W) rfl ?_
      refine j_iload_n C dX3_readRow_25 rfl rfl ?_
      obtain ⟨p3, hP⟩ := hP
      refine j_iald (k := 27) (v := (h 27 (a1.toNatClampNeg))) C dX3_readRow_26 (W.lt 27 (by decide)) (sh_27 W) p3 rfl ?_
      refine j_istore C dX3_readRow_27 (by decide) rfl ?_
      refine j_aload_n C dX3_readRow_29 rfl rfl ?_
      refine gCRX3_15 C dX3_readRow_30 (W.lt 25 (by decide)) (sh_25 W) rfl ?_
      refine j_iload_n C dX3_readRow_33 rfl rfl ?_
      obtain ⟨p9, hP⟩ := hP
      refine j_iald (k := 27) (v := (h 27 (a2.toNatClampNeg))) C dX3_readRow_34 (W.lt 27 (by decide)) (sh_27 W) p9 rfl ?_
      refine j_istore C dX3_readRow_35 (by decide) rfl ?_
      refine j_aload_n C dX3_readRow_37 rfl rfl ?_
      refine j_iload C dX3_readRow_38 rfl ?_
      refine j_iload C dX3_readRow_40 rfl ?_
      obtain ⟨p15, hP⟩ := hP
      refine j_callV C (MX3_hasRowPlace_oc1 W (h 27 (a1.toNatClampNeg)) (h 27 (a2.toNatClampNeg)) h p15) dX3_readRow_42 (CKX3_hasRowPlace (by decide)) ⟨rfl, rfl⟩ lk_RX3_196 in_X3_hasRowPlace se_X3_hasRowPlace (W.lt 25 (by decide)) (sh_25 W) rfl rfl (Nat.le_of_ble_eq_true rfl) ?_
      intro r S' h' hq
      obtain ⟨e1, hh, e3, hb17⟩ := hq
      rw [e1, hh, e3]
      refine j_if_ne (tgt := 50) C dX3_readRow_45 (by decide) (fun c2 => ?_) (fun c2 => ?_)
      · have hP := hP.2 c2
        rw [if_neg c2] at hR
        refine j_aload_n C dX3_readRow_50 rfl rfl ?_
        refine j_bipush (v := 100) C dX3_readRow_51 (by decide) ?_
        refine j_iload C dX3_readRow_53 rfl ?_
        refine j_bipush (v := 20) C dX3_readRow_55 (by decide) ?_
        refine j_imul C dX3_readRow_57 ?_
        refine j_iadd C dX3_readRow_58 ?_
        refine j_iload C dX3_readRow_59 rfl ?_
        refine j_iadd C dX3_readRow_61 ?_
        refine pCRX3_114 C dX3_readRow_62 (W.lt 25 (by decide)) (sh_25 W) rfl ?_
        refine j_aload_n C dX3_readRow_65 rfl rfl ?_
        refine j_iload_n C dX3_readRow_66 rfl rfl ?_
        refine j_iconst (v := 0) C dX3_readRow_67 (by decide) ?_
        refine j_aload_n C dX3_readRow_68 rfl rfl ?_
        refine gCRX3_36 C dX3_readRow_69 (W.lt 25 (by decide)) (sh_25 W) rfl ?_
        refine j_iload C dX3_readRow_72 rfl ?_
        refine j_bipush (v := 16) C dX3_readRow_74 (by decide) ?_
        refine j_imul C dX3_readRow_76 ?_
        refine j_iload C dX3_readRow_77 rfl ?_
        refine j_iadd C dX3_readRow_79 ?_
        obtain ⟨p19, hP⟩ := hP
        refine j_iald (k := 34) (v := (h 34 ((((h 27 (a1.toNatClampNeg)) * 16) + (h 27 (a2.toNatClampNeg))).toNatClampNeg))) C dX3_readRow_80 (W.lt 34 (by decide)) (sh_34 W) p19 (hz_k (by decide)) ?_
        obtain ⟨p21, hP⟩ := hP
        refine j_callV C (MX3_hold_oc1 W a0 0 (h 34 ((((h 27 (a1.toNatClampNeg)) * 16) + (h 27 (a2.toNatClampNeg))).toNatClampNeg)) (hs h 25 14 ((100 + ((h 27 (a1.toNatClampNeg)) * 20)) + (h 27 (a2.toNatClampNeg)))) p21) dX3_readRow_81 (CKX3_hold (by decide)) ⟨rfl, rfl⟩ lk_RX3_135 in_X3_hold se_X3_hold (W.lt 25 (by decide)) (sh_25 W) rfl rfl (Nat.le_of_ble_eq_true rfl) ?_
        intro r S' h' hq
        obtain ⟨e1, e2, e3⟩ := hq
        rw [e1, e2, e3]
        exact RETi_u hR _ _ dX3_readRow_84
      · have hP := hP.1 c2
        rw [if_pos c2] at hR
        refine j_iconst (v := 4) C dX3_readRow_48 (by decide) ?_
        exact RETi_u hR _ _ dX3_readRow_49
    · have hP := hP.2 c1
      rw [if_neg c1] at hR
      refine j_iconst (v := 1) C dX3_readRow_19 (by decide) ?_
      exact RETi_u hR _ _ dX3_readRow_20
theorem MX3_readRow_oc1 {l0 : Launch} {Y : fj_Y} {ad : Nat → Nat} {n : Nat} {S : ph_S} (W : WS 1 n S) (a0 : Int32) (a1 : Int32) (a2 : Int32) (h : ph_H) (hP : PX3_readRow_oc1 a0 a1 a2 h) : MI l0 yX3_readRow cX3_readRow 6 (some .int) ({ frames := 1, cells := 0, slots := 0, locals := 23 } : Room) Y ad n S h [.ref (ad 25), .int a0, .int a1, .int a2] (fun r S' h' => S' = S ∧ h' = (FX3_readRow_oc1 a0 a1 a2 h).2 ∧ r = (FX3_readRow_oc1 a0 a1 a2 h).1) := met_i (by decide) (Nat.le_of_ble_eq_true rfl) (fun _ _ _ _ => rfl) (fun X C K => j_vl (tX3_readRow_oc1 W C a0 a1 a2 h hP (fun pc lv hd => K _ _ _ ⟨rfl, rfl, rfl⟩ pc lv hd)) ⟨rfl, rfl, rfl, rfl, trivial⟩)

-- X3_bothNumbers_oc1
def FX3_bothNumbers_oc1 (a0 : Int32) (a1 : Int32) (h : ph_H) : Int32 := if (h 26 (a0.toNatClampNeg)) = 0 then (if (h 26 (a1.toNatClampNeg)) = 0 then (1) else (0)) else (0)
def PX3_bothNumbers_oc1 (a0 : Int32) (a1 : Int32) (h : ph_H) : Prop := vp_in a0 28 ∧ (((h 26 (a0.toNatClampNeg)) = 0 → (vp_in a1 28 ∧ (((h 26 (a1.toNatClampNeg)) = 0 → (True)) ∧ (¬ (h 26 (a1.toNatClampNeg)) = 0 → (True))))) ∧ (¬ (h 26 (a0.toNatClampNeg)) = 0 → (True)))
set_option maxRecDepth 100000 in
set_option maxHeartbeats 4000000 in
theorem tX3_bothNumbers_oc1 {X : fj_X} {Y : fj_Y} {l0 : Launch} {ad : Nat → Nat} {n : Nat} {S : ph_S} (W : WS 1 n S) (C : FC X Y l0 cX3_bothNumbers 3 RX3 ({ frames := 0, cells := 0, slots := 0, locals := 0 } : Room) 0 0 (some .boolean)) (a0 : Int32) (a1 : Int32) (h : ph_H) (hP : PX3_bothNumbers_oc1 a0 a1 h) (hR : RETq X Y ad n S h cX3_bothNumbers (FX3_bothNumbers_oc1 a0 a1 h)) : FJ X Y ad n S h 0 [(0, .ref (ad 25)), (1, .int a0), (2, .int a1)] [] := by
  unfold PX3_bothNumbers_oc1 at hP
  unfold FX3_bothNumbers_oc1 at hR
  refine j_aload_n C dX3_bothNumbers_0 rfl rfl ?_
  refine gCRX3_9 C dX3_bothNumbers_1 (W.lt 25 (by decide)) (sh_25 W) rfl ?_
  refine j_iload_n C dX3_bothNumbers_4 rfl rfl ?_
  obtain ⟨p3, hP⟩ := hP
  refine j_iald (k := 26) (v := (h 26 (a0.toNatClampNeg))) C dX3_bothNumbers_5 (W.lt 26 (by decide)) (sh_26 W) p3 rfl ?_
  refine j_if_ne (tgt := 22) C dX3_bothNumbers_6 (by decide) (fun c0 => ?_) (fun c0 => ?_)
  · have hP := hP.2 c0
    rw [if_neg c0] at hR
    refine j_iconst (v := 0) C dX3_bothNumbers_22 (by decide) ?_
    exact hR bo_0 _ _ dX3_bothNumbers_23
  · have hP := hP.1 c0
    rw [if_pos c0] at hR
    refine j_aload_n C dX3_bothNumbers_9 rfl rfl ?_
    refine gCRX3_9 C dX3_bothNumbers_10 (W.lt 25 (by decide)) (sh_25 W) rfl ?_
    refine j_iload_n C dX3_bothNumbers_13 rfl rfl ?_
    obtain ⟨p3, hP⟩ := hP
    refine j_iald (k := 26) (v := (h 26 (a1.toNatClampNeg))) C dX3_bothNumbers_14 (W.lt 26 (by decide)) (sh_26 W) p3 rfl ?_
    refine j_if_ne (tgt := 22) C dX3_bothNumbers_15 (by decide) (fun c1 => ?_) (fun c1 => ?_)
    · have hP := hP.2 c1
      rw [if_neg c1] at hR
      refine j_iconst (v := 0) C dX3_bothNumbers_22 (by decide) ?_
      exact hR bo_0 _ _ dX3_bothNumbers_23
    · have hP := hP.1 c1
      rw [if_pos c1] at hR
      refine j_iconst (v := 1) C dX3_bothNumbers_18 (by decide) ?_
      refine j_goto (tgt := 23) C dX3_bothNumbers_19 (by decide) ?_
      exact hR bo_1 _ _ dX3_bothNumbers_23
theorem MX3_bothNumbers_oc1 {l0 : Launch} {Y : fj_Y} {ad : Nat → Nat} {n : Nat} {S : ph_S} (W : WS 1 n S) (a0 : Int32) (a1 : Int32) (h : ph_H) (hP : PX3_bothNumbers_oc1 a0 a1 h) : MI l0 yX3_bothNumbers cX3_bothNumbers 3 (some .boolean) ({ frames := 0, cells := 0, slots := 0, locals := 0 } : Room) Y ad n S h [.ref (ad 25), .int a0, .int a1] (fun r S' h' => S' = S ∧ h' = h ∧ r = FX3_bothNumbers_oc1 a0 a1 h ∧ bo r) := met_i (by decide) (Nat.le_of_ble_eq_true rfl) (fun _ _ _ q => bo_n q.2.2.2) (fun X C K => j_vl (tX3_bothNumbers_oc1 W C a0 a1 h hP (fun b pc lv hd => K _ _ _ ⟨rfl, rfl, rfl, b⟩ pc lv hd)) ⟨rfl, rfl, rfl, trivial⟩)

-- X3_reckon_oc1
def FX3_reckon_oc1_58  (x2 : Int32) (s0 : Int32) (h : ph_H) : Int32 × ph_H := ((FX3_hold_oc1 x2 0 s0 h).1, (FX3_hold_oc1 x2 0 s0 h).2)
def PX3_reckon_oc1_58  (x2 : Int32) (s0 : Int32) (h : ph_H) : Prop := (PX3_hold_oc1 x2 0 s0 h) ∧ (True)
set_option maxRecDepth 100000 in
set_option maxHeartbeats 4000000 in
theorem tX3_reckon_oc1_58 {X : fj_X} {Y : fj_Y} {l0 : Launch} {ad : Nat → Nat} {n : Nat} {S : ph_S} (W : WS 1 n S) (C : FC X Y l0 cX3_reckon 7 RX3 ({ frames := 1, cells := 0, slots := 0, locals := 23 } : Room) 0 0 (some .int)) (x2 : Int32) (s0 : Int32) (h : ph_H) (hP : PX3_reckon_oc1_58  x2 s0 h) (hR : RETi X Y ad n S cX3_reckon (FX3_reckon_oc1_58  x2 s0 h)) : FJ X Y ad n S h 58 [(0, .ref (ad 25)), (2, .int x2)] [.int s0] := by
  unfold PX3_reckon_oc1_58 at hP
  unfold FX3_reckon_oc1_58 at hR
  refine j_istore C dX3_reckon_58 (by decide) rfl ?_
  refine j_aload_n C dX3_reckon_60 rfl rfl ?_
  refine j_iload_n C dX3_reckon_61 rfl rfl ?_
  refine j_iconst (v := 0) C dX3_reckon_62 (by decide) ?_
  refine j_iload C dX3_reckon_63 rfl ?_
  obtain ⟨p5, hP⟩ := hP
  refine j_callV C (MX3_hold_oc1 W x2 0 s0 h p5) dX3_reckon_65 (CKX3_hold (by decide)) ⟨rfl, rfl⟩ lk_RX3_135 in_X3_hold se_X3_hold (W.lt 25 (by decide)) (sh_25 W) rfl rfl (Nat.le_of_ble_eq_true rfl) ?_
  intro r S' h' hq
  obtain ⟨e1, e2, e3⟩ := hq
  rw [e1, e2, e3]
  exact RETi_u hR _ _ dX3_reckon_68
def FX3_reckon_oc1 (a0 : Int32) (a1 : Int32) (a2 : Int32) (h : ph_H) : Int32 × ph_H := if (FX3_bothNumbers_oc1 a1 a2 h) = 0 then ((1, h)) else (if a0 = 3 then (FX3_reckon_oc1_58  a1 ((h 27 (a1.toNatClampNeg)) + (h 27 (a2.toNatClampNeg))) h) else (if a0 = 4 then (FX3_reckon_oc1_58  a1 ((h 27 (a1.toNatClampNeg)) - (h 27 (a2.toNatClampNeg))) h) else (FX3_reckon_oc1_58  a1 ((h 27 (a1.toNatClampNeg)) * (h 27 (a2.toNatClampNeg))) h)))
def PX3_reckon_oc1 (a0 : Int32) (a1 : Int32) (a2 : Int32) (h : ph_H) : Prop := (PX3_bothNumbers_oc1 a1 a2 h) ∧ (((FX3_bothNumbers_oc1 a1 a2 h) = 0 → (True)) ∧ (¬ (FX3_bothNumbers_oc1 a1 a2 h) = 0 → (vp_in a1 28 ∧ (vp_in a2 28 ∧ ((a0 = 3 → (PX3_reckon_oc1_58  a1 ((h 27 (a1.toNatClampNeg)) + (h 27 (a2.toNatClampNeg))) h)) ∧ (¬ a0 = 3 → ((a0 = 4 → (PX3_reckon_oc1_58  a1 ((h 27 (a1.toNatClampNeg)) - (h 27 (a2.toNatClampNeg))) h)) ∧ (¬ a0 = 4 → (PX3_reckon_oc1_58  a1 ((h 27 (a1.toNatClampNeg)) * (h 27 (a2.toNatClampNeg))) h)))))))))
set_option maxRecDepth 100000 in
set_option maxHeartbeats 4000000 in
theorem tX3_reckon_oc1 {X : fj_X} {Y : fj_Y} {l0 : Launch} {ad : Nat → Nat} {n : Nat} {S : ph_S} (W : WS 1 n S) (C : FC X Y l0 cX3_reckon 7 RX3 ({ frames := 1, cells := 0, slots := 0, locals := 23 } : Room) 0 0 (some .int)) (a0 : Int32) (a1 : Int32) (a2 : Int32) (h : ph_H) (hP : PX3_reckon_oc1 a0 a1 a2 h) (hR : RETi X Y ad n S cX3_reckon (FX3_reckon_oc1 a0 a1 a2 h)) : FJ X Y ad n S h 0 [(0, .ref (ad 25)), (1, .int a0), (2, .int a1), (3, .int a2)] [] := by
  unfold PX3_reckon_oc1 at hP
  unfold FX3_reckon_oc1 at hR
  refine j_aload_n C dX3_reckon_0 rfl rfl ?_
  refine j_iload_n C dX3_reckon_1 rfl rfl ?_
  refine j_iload_n C dX3_reckon_2 rfl rfl ?_
  obtain ⟨p3, hP⟩ := hP
  refine j_callV C (MX3_bothNumbers_oc1 W a1 a2 h p3) dX3_reckon_3 (CKX3_bothNumbers (by decide)) ⟨rfl, rfl⟩ lk_RX3_190 in_X3_bothNumbers se_X3_bothNumbers (W.lt 25 (by decide)) (sh_25 W) rfl rfl (Nat.le_of_ble_eq_true rfl) ?_
  intro r S' h' hq
  obtain ⟨e1, hh, e3, hb5⟩ := hq
  rw [e1, hh, e3]
  refine j_if_ne (tgt := 11) C dX3_reckon_6 (by decide) (fun c0 => ?_) (fun c0 => ?_)
  · have hP := hP.2 c0
    rw [if_neg c0] at hR
    refine j_aload_n C dX3_reckon_11 rfl rfl ?_
    refine gCRX3_15 C dX3_reckon_12 (W.lt 25 (by decide)) (sh_25 W) rfl ?_
    refine j_iload_n C dX3_reckon_15 rfl rfl ?_
    obtain ⟨p3, hP⟩ := hP
    refine j_iald (k := 27) (v := (h 27 (a1.toNatClampNeg))) C dX3_reckon_16 (W.lt 27 (by decide)) (sh_27 W) p3 rfl ?_
    refine j_istore C dX3_reckon_17 (by decide) rfl ?_
    refine j_aload_n C dX3_reckon_19 rfl rfl ?_
    refine gCRX3_15 C dX3_reckon_20 (W.lt 25 (by decide)) (sh_25 W) rfl ?_
    refine j_iload_n C dX3_reckon_23 rfl rfl ?_
    obtain ⟨p9, hP⟩ := hP
    refine j_iald (k := 27) (v := (h 27 (a2.toNatClampNeg))) C dX3_reckon_24 (W.lt 27 (by decide)) (sh_27 W) p9 rfl ?_
    refine j_istore C dX3_reckon_25 (by decide) rfl ?_
    refine j_iload_n C dX3_reckon_27 rfl rfl ?_
    refine j_iconst (v := 3) C dX3_reckon_28 (by decide) ?_
    refine j_icmp_ne (tgt := 40) C dX3_reckon_29 (by decide) (fun c1 => ?_) (fun c1 => ?_)
    · have hP := hP.2 c1
      rw [if_neg c1] at hR
      refine j_iload_n C dX3_reckon_40 rfl rfl ?_
      refine j_iconst (v := 4) C dX3_reckon_41 (by decide) ?_
      refine j_icmp_ne (tgt := 53) C dX3_reckon_42 (by decide) (fun c2 => ?_) (fun c2 => ?_)
      · have hP := hP.2 c2
        rw [if_neg c2] at hR
        refine j_iload C dX3_reckon_53 rfl ?_
        refine j_iload C dX3_reckon_55 rfl ?_
        refine j_imul C dX3_reckon_57 ?_
        exact j_vl (tX3_reckon_oc1_58 W C  a1 ((h 27 (a1.toNatClampNeg)) * (h 27 (a2.toNatClampNeg))) h hP hR) ⟨rfl, rfl, trivial⟩
      · have hP := hP.1 c2
        rw [if_pos c2] at hR
        refine j_iload C dX3_reckon_45 rfl ?_
        refine j_iload C dX3_reckon_47 rfl ?_
        refine j_isub C dX3_reckon_49 ?_
        refine j_goto (tgt := 58) C dX3_reckon_50 (by decide) ?_
        exact j_vl (tX3_reckon_oc1_58 W C  a1 ((h 27 (a1.toNatClampNeg)) - (h 27 (a2.toNatClampNeg))) h hP hR) ⟨rfl, rfl, trivial⟩
    · have hP := hP.1 c1
      rw [if_pos c1] at hR
      refine j_iload C dX3_reckon_32 rfl ?_
      refine j_iload C dX3_reckon_34 rfl ?_
      refine j_iadd C dX3_reckon_36 ?_
      refine j_goto (tgt := 58) C dX3_reckon_37 (by decide) ?_
      exact j_vl (tX3_reckon_oc1_58 W C  a1 ((h 27 (a1.toNatClampNeg)) + (h 27 (a2.toNatClampNeg))) h hP hR) ⟨rfl, rfl, trivial⟩
  · have hP := hP.1 c0
    rw [if_pos c0] at hR
    refine j_iconst (v := 1) C dX3_reckon_9 (by decide) ?_
    exact RETi_u hR _ _ dX3_reckon_10
theorem MX3_reckon_oc1 {l0 : Launch} {Y : fj_Y} {ad : Nat → Nat} {n : Nat} {S : ph_S} (W : WS 1 n S) (a0 : Int32) (a1 : Int32) (a2 : Int32) (h : ph_H) (hP : PX3_reckon_oc1 a0 a1 a2 h) : MI l0 yX3_reckon cX3_reckon 7 (some .int) ({ frames := 1, cells := 0, slots := 0, locals := 23 } : Room) Y ad n S h [.ref (ad 25), .int a0, .int a1, .int a2] (fun r S' h' => S' = S ∧ h' = (FX3_reckon_oc1 a0 a1 a2 h).2 ∧ r = (FX3_reckon_oc1 a0 a1 a2 h).1) := met_i (by decide) (Nat.le_of_ble_eq_true rfl) (fun _ _ _ _ => rfl) (fun X C K => j_vl (tX3_reckon_oc1 W C a0 a1 a2 h hP (fun pc lv hd => K _ _ _ ⟨rfl, rfl, rfl⟩ pc lv hd)) ⟨rfl, rfl, rfl, rfl, trivial⟩)

-- X3_startThread_oc1
def FX3_startThread_oc1 (a0 : Int32) (h : ph_H) : Int32 × ph_H := if (h 29 (a0.toNatClampNeg)) = 0 then ((0, (hs (hs (hs h 29 a0.toNatClampNeg 1) 25 16 4) 25 17 a0))) else ((5, h))
def PX3_startThread_oc1 (a0 : Int32) (h : ph_H) : Prop := vp_in a0 4 ∧ (((h 29 (a0.toNatClampNeg)) = 0 → (vp_in a0 4 ∧ (True))) ∧ (¬ (h 29 (a0.toNatClampNeg)) = 0 → (True)))
set_option maxRecDepth 100000 in
set_option maxHeartbeats 4000000 in
theorem tX3_startThread_oc1 {X : fj_X} {Y : fj_Y} {l0 : Launch} {ad : Nat → Nat} {n : Nat} {S : ph_S} (W : WS 1 n S) (C : FC X Y l0 cX3_startThread 2 RX3 ({ frames := 0, cells := 0, slots := 0, locals := 0 } : Room) 0 0 (some .int)) (a0 : Int32) (h : ph_H) (hP : PX3_startThread_oc1 a0 h) (hR : RETi X Y ad n S cX3_startThread (FX3_startThread_oc1 a0 h)) : FJ X Y ad n S h 0 [(0, .ref (ad 25)), (1, .int a0)] [] := by
  unfold PX3_startThread_oc1 at hP
  unfold FX3_startThread_oc1 at hR
  refine j_aload_n C dX3_startThread_0 rfl rfl ?_
  refine gCRX3_21 C dX3_startThread_1 (W.lt 25 (by decide)) (sh_25 W) rfl ?_
  refine j_iload_n C dX3_startThread_4 rfl rfl ?_
  obtain ⟨p3, hP⟩ := hP
  refine j_iald (k := 29) (v := (h 29 (a0.toNatClampNeg))) C dX3_startThread_5 (W.lt 29 (by decide)) (sh_29 W) p3 rfl ?_
  refine j_if_eq (tgt := 11) C dX3_startThread_6 (by decide) (fun c0 => ?_) (fun c0 => ?_)
  · have hP := hP.1 c0
    rw [if_pos c0] at hR
    refine j_aload_n C dX3_startThread_11 rfl rfl ?_
    refine gCRX3_21 C dX3_startThread_12 (W.lt 25 (by decide)) (sh_25 W) rfl ?_
    refine j_iload_n C dX3_startThread_15 rfl rfl ?_
    refine j_iconst (v := 1) C dX3_startThread_16 (by decide) ?_
    obtain ⟨p4, hP⟩ := hP
    refine j_iast (k := 29) C dX3_startThread_17 (W.lt 29 (by decide)) (sh_29 W) p4 ?_
    refine j_aload_n C dX3_startThread_18 rfl rfl ?_
    refine j_iconst (v := 4) C dX3_startThread_19 (by decide) ?_
    refine pCRX3_120 C dX3_startThread_20 (W.lt 25 (by decide)) (sh_25 W) rfl ?_
    refine j_aload_n C dX3_startThread_23 rfl rfl ?_
    refine j_iload_n C dX3_startThread_24 rfl rfl ?_
    refine pCRX3_123 C dX3_startThread_25 (W.lt 25 (by decide)) (sh_25 W) rfl ?_
    refine j_iconst (v := 0) C dX3_startThread_28 (by decide) ?_
    exact RETi_u hR _ _ dX3_startThread_29
  · have hP := hP.2 c0
    rw [if_neg c0] at hR
    refine j_iconst (v := 5) C dX3_startThread_9 (by decide) ?_
    exact RETi_u hR _ _ dX3_startThread_10
theorem MX3_startThread_oc1 {l0 : Launch} {Y : fj_Y} {ad : Nat → Nat} {n : Nat} {S : ph_S} (W : WS 1 n S) (a0 : Int32) (h : ph_H) (hP : PX3_startThread_oc1 a0 h) : MI l0 yX3_startThread cX3_startThread 2 (some .int) ({ frames := 0, cells := 0, slots := 0, locals := 0 } : Room) Y ad n S h [.ref (ad 25), .int a0] (fun r S' h' => S' = S ∧ h' = (FX3_startThread_oc1 a0 h).2 ∧ r = (FX3_startThread_oc1 a0 h).1) := met_i (by decide) (Nat.le_of_ble_eq_true rfl) (fun _ _ _ _ => rfl) (fun X C K => j_vl (tX3_startThread_oc1 W C a0 h hP (fun pc lv hd => K _ _ _ ⟨rfl, rfl, rfl⟩ pc lv hd)) ⟨rfl, rfl, trivial⟩)

-- X3_takeInput_oc1
def FX3_takeInput_oc1 (a0 : Int32) (h : ph_H) : Int32 × ph_H := if (h 25 11) ≤ (h 25 12) then ((7, h)) else (if (h 25 12) < 30 then (((FX3_hold_oc1 a0 0 (h 5 ((((h 25 12) + 1) - 1).toNatClampNeg)) (hs h 25 12 ((h 25 12) + 1))).1, (FX3_hold_oc1 a0 0 (h 5 ((((h 25 12) + 1) - 1).toNatClampNeg)) (hs h 25 12 ((h 25 12) + 1))).2)) else ((7, h)))
def PX3_takeInput_oc1 (a0 : Int32) (h : ph_H) : Prop := ((h 25 11) ≤ (h 25 12) → (True)) ∧ (¬ (h 25 11) ≤ (h 25 12) → (((h 25 12) < 30 → (vp_in (((h 25 12) + 1) - 1) 30 ∧ ((PX3_hold_oc1 a0 0 (h 5 ((((h 25 12) + 1) - 1).toNatClampNeg)) (hs h 25 12 ((h 25 12) + 1))) ∧ (True)))) ∧ (¬ (h 25 12) < 30 → (True))))
set_option maxRecDepth 100000 in
set_option maxHeartbeats 4000000 in
theorem tX3_takeInput_oc1 {X : fj_X} {Y : fj_Y} {l0 : Launch} {ad : Nat → Nat} {n : Nat} {S : ph_S} (W : WS 1 n S) (C : FC X Y l0 cX3_takeInput 2 RX3 ({ frames := 1, cells := 0, slots := 0, locals := 23 } : Room) 0 0 (some .int)) (a0 : Int32) (h : ph_H) (hP : PX3_takeInput_oc1 a0 h) (hR : RETi X Y ad n S cX3_takeInput (FX3_takeInput_oc1 a0 h)) : FJ X Y ad n S h 0 [(0, .ref (ad 25)), (1, .int a0)] [] := by
  unfold PX3_takeInput_oc1 at hP
  unfold FX3_takeInput_oc1 at hR
  refine j_aload_n C dX3_takeInput_0 rfl rfl ?_
  refine gCRX3_67 (v := (h 25 12)) C dX3_takeInput_1 (W.lt 25 (by decide)) (sh_25 W) rfl rfl ?_
  refine j_aload_n C dX3_takeInput_4 rfl rfl ?_
  refine gCRX3_64 (v := (h 25 11)) C dX3_takeInput_5 (W.lt 25 (by decide)) (sh_25 W) rfl rfl ?_
  refine j_icmp_ge (tgt := 20) C dX3_takeInput_8 (by decide) (fun c0 => ?_) (fun c0 => ?_)
  · have hP := hP.1 c0
    rw [if_pos c0] at hR
    refine j_bipush (v := 7) C dX3_takeInput_20 (by decide) ?_
    exact RETi_u hR _ _ dX3_takeInput_22
  · have hP := hP.2 c0
    rw [if_neg c0] at hR
    refine j_aload_n C dX3_takeInput_11 rfl rfl ?_
    refine gCRX3_67 (v := (h 25 12)) C dX3_takeInput_12 (W.lt 25 (by decide)) (sh_25 W) rfl rfl ?_
    refine j_bipush (v := 30) C dX3_takeInput_15 (by decide) ?_
    refine j_icmp_lt (tgt := 23) C dX3_takeInput_17 (by decide) (fun c1 => ?_) (fun c1 => ?_)
    · have hP := hP.1 c1
      rw [if_pos c1] at hR
      refine j_aload_n C dX3_takeInput_23 rfl rfl ?_
      refine j_dup C dX3_takeInput_24 rfl ?_
      refine gCRX3_67 (v := (h 25 12)) C dX3_takeInput_25 (W.lt 25 (by decide)) (sh_25 W) rfl rfl ?_
      refine j_iconst (v := 1) C dX3_takeInput_28 (by decide) ?_
      refine j_iadd C dX3_takeInput_29 ?_
      refine pCRX3_67 C dX3_takeInput_30 (W.lt 25 (by decide)) (sh_25 W) rfl ?_
      refine j_aload_n C dX3_takeInput_33 rfl rfl ?_
      refine j_iload_n C dX3_takeInput_34 rfl rfl ?_
      refine j_iconst (v := 0) C dX3_takeInput_35 (by decide) ?_
      refine j_aload_n C dX3_takeInput_36 rfl rfl ?_
      refine gCRX3_39 C dX3_takeInput_37 (W.lt 25 (by decide)) (sh_25 W) rfl ?_
      refine gCRX3_208 C dX3_takeInput_40 (W.lt 1 (by decide)) (sh_1 W) rfl ?_
      refine j_aload_n C dX3_takeInput_43 rfl rfl ?_
      refine gCRX3_67 (v := ((h 25 12) + 1)) C dX3_takeInput_44 (W.lt 25 (by decide)) (sh_25 W) rfl (hz_e) ?_
      refine j_iconst (v := 1) C dX3_takeInput_47 (by decide) ?_
      refine j_isub C dX3_takeInput_48 ?_
      obtain ⟨p16, hP⟩ := hP
      refine j_iald (k := 5) (v := (h 5 ((((h 25 12) + 1) - 1).toNatClampNeg))) C dX3_takeInput_49 (W.lt 5 (by decide)) (sh_5 W) p16 (hz_k (by decide)) ?_
      obtain ⟨p18, hP⟩ := hP
      refine j_callV C (MX3_hold_oc1 W a0 0 (h 5 ((((h 25 12) + 1) - 1).toNatClampNeg)) (hs h 25 12 ((h 25 12) + 1)) p18) dX3_takeInput_50 (CKX3_hold (by decide)) ⟨rfl, rfl⟩ lk_RX3_135 in_X3_hold se_X3_hold (W.lt 25 (by decide)) (sh_25 W) rfl rfl (Nat.le_of_ble_eq_true rfl) ?_
      intro r S' h' hq
      obtain ⟨e1, e2, e3⟩ := hq
      rw [e1, e2, e3]
      exact RETi_u hR _ _ dX3_takeInput_53
    · have hP := hP.2 c1
      rw [if_neg c1] at hR
      refine j_bipush (v := 7) C dX3_takeInput_20 (by decide) ?_
      exact RETi_u hR _ _ dX3_takeInput_22
theorem MX3_takeInput_oc1 {l0 : Launch} {Y : fj_Y} {ad : Nat → Nat} {n : Nat} {S : ph_S} (W : WS 1 n S) (a0 : Int32) (h : ph_H) (hP : PX3_takeInput_oc1 a0 h) : MI l0 yX3_takeInput cX3_takeInput 2 (some .int) ({ frames := 1, cells := 0, slots := 0, locals := 23 } : Room) Y ad n S h [.ref (ad 25), .int a0] (fun r S' h' => S' = S ∧ h' = (FX3_takeInput_oc1 a0 h).2 ∧ r = (FX3_takeInput_oc1 a0 h).1) := met_i (by decide) (Nat.le_of_ble_eq_true rfl) (fun _ _ _ _ => rfl) (fun X C K => j_vl (tX3_takeInput_oc1 W C a0 h hP (fun pc lv hd => K _ _ _ ⟨rfl, rfl, rfl⟩ pc lv hd)) ⟨rfl, rfl, trivial⟩)

-- X3_own_oc1
def FX3_own_oc1 (a0 : Int32) (a1 : Int32) (h : ph_H) : Int32 × ph_H := (0, (hs (hs (hs h 33 a1.toNatClampNeg a0) 25 16 1) 25 17 a1))
def PX3_own_oc1 (a0 : Int32) (a1 : Int32) (h : ph_H) : Prop := vp_in a1 12 ∧ (True)
set_option maxRecDepth 100000 in
set_option maxHeartbeats 4000000 in
theorem tX3_own_oc1 {X : fj_X} {Y : fj_Y} {l0 : Launch} {ad : Nat → Nat} {n : Nat} {S : ph_S} (W : WS 1 n S) (C : FC X Y l0 cX3_own 3 RX3 ({ frames := 0, cells := 0, slots := 0, locals := 0 } : Room) 0 0 (some .int)) (a0 : Int32) (a1 : Int32) (h : ph_H) (hP : PX3_own_oc1 a0 a1 h) (hR : RETi X Y ad n S cX3_own (FX3_own_oc1 a0 a1 h)) : FJ X Y ad n S h 0 [(0, .ref (ad 25)), (1, .int a0), (2, .int a1)] [] := by
  unfold PX3_own_oc1 at hP
  unfold FX3_own_oc1 at hR
  refine j_aload_n C dX3_own_0 rfl rfl ?_
  refine gCRX3_33 C dX3_own_1 (W.lt 25 (by decide)) (sh_25 W) rfl ?_
  refine j_iload_n C dX3_own_4 rfl rfl ?_
  refine j_iload_n C dX3_own_5 rfl rfl ?_
  obtain ⟨p4, hP⟩ := hP
  refine j_iast (k := 33) C dX3_own_6 (W.lt 33 (by decide)) (sh_33 W) p4 ?_
  refine j_aload_n C dX3_own_7 rfl rfl ?_
  refine j_iconst (v := 1) C dX3_own_8 (by decide) ?_
  refine pCRX3_120 C dX3_own_9 (W.lt 25 (by decide)) (sh_25 W) rfl ?_
  refine j_aload_n C dX3_own_12 rfl rfl ?_
  refine j_iload_n C dX3_own_13 rfl rfl ?_
  refine pCRX3_123 C dX3_own_14 (W.lt 25 (by decide)) (sh_25 W) rfl ?_
  refine j_iconst (v := 0) C dX3_own_17 (by decide) ?_
  exact RETi_u hR _ _ dX3_own_18
theorem MX3_own_oc1 {l0 : Launch} {Y : fj_Y} {ad : Nat → Nat} {n : Nat} {S : ph_S} (W : WS 1 n S) (a0 : Int32) (a1 : Int32) (h : ph_H) (hP : PX3_own_oc1 a0 a1 h) : MI l0 yX3_own cX3_own 3 (some .int) ({ frames := 0, cells := 0, slots := 0, locals := 0 } : Room) Y ad n S h [.ref (ad 25), .int a0, .int a1] (fun r S' h' => S' = S ∧ h' = (FX3_own_oc1 a0 a1 h).2 ∧ r = (FX3_own_oc1 a0 a1 h).1) := met_i (by decide) (Nat.le_of_ble_eq_true rfl) (fun _ _ _ _ => rfl) (fun X C K => j_vl (tX3_own_oc1 W C a0 a1 h hP (fun pc lv hd => K _ _ _ ⟨rfl, rfl, rfl⟩ pc lv hd)) ⟨rfl, rfl, rfl, trivial⟩)

-- X3_takeLock_oc1
def FX3_takeLock_oc1 (a0 : Int32) (a1 : Int32) (h : ph_H) : Int32 × ph_H := if 0 ≤ (FX3_lockIn_oc1 a1 h) then (if (h 33 ((FX3_lockIn_oc1 a1 h).toNatClampNeg)) = a0 then ((5, h)) else (((FX3_own_oc1 a0 (FX3_lockIn_oc1 a1 h) h).1, (FX3_own_oc1 a0 (FX3_lockIn_oc1 a1 h) h).2))) else ((1, h))
def PX3_takeLock_oc1 (a0 : Int32) (a1 : Int32) (h : ph_H) : Prop := (PX3_lockIn_oc1 a1 h) ∧ ((0 ≤ (FX3_lockIn_oc1 a1 h) → (vp_in (FX3_lockIn_oc1 a1 h) 12 ∧ (((h 33 ((FX3_lockIn_oc1 a1 h).toNatClampNeg)) = a0 → (True)) ∧ (¬ (h 33 ((FX3_lockIn_oc1 a1 h).toNatClampNeg)) = a0 → ((PX3_own_oc1 a0 (FX3_lockIn_oc1 a1 h) h) ∧ (True)))))) ∧ (¬ 0 ≤ (FX3_lockIn_oc1 a1 h) → (True)))
set_option maxRecDepth 100000 in
set_option maxHeartbeats 4000000 in
theorem tX3_takeLock_oc1 {X : fj_X} {Y : fj_Y} {l0 : Launch} {ad : Nat → Nat} {n : Nat} {S : ph_S} (W : WS 1 n S) (C : FC X Y l0 cX3_takeLock 4 RX3 ({ frames := 1, cells := 0, slots := 0, locals := 22 } : Room) 0 0 (some .int)) (a0 : Int32) (a1 : Int32) (h : ph_H) (hP : PX3_takeLock_oc1 a0 a1 h) (hR : RETi X Y ad n S cX3_takeLock (FX3_takeLock_oc1 a0 a1 h)) : FJ X Y ad n S h 0 [(0, .ref (ad 25)), (1, .int a0), (2, .int a1)] [] := by
  unfold PX3_takeLock_oc1 at hP
  unfold FX3_takeLock_oc1 at hR
  refine j_aload_n C dX3_takeLock_0 rfl rfl ?_
  refine j_iload_n C dX3_takeLock_1 rfl rfl ?_
  obtain ⟨p2, hP⟩ := hP
  refine j_callV C (MX3_lockIn_oc1 W a1 h p2) dX3_takeLock_2 (CKX3_lockIn (by decide)) ⟨rfl, rfl⟩ lk_RX3_88 in_X3_lockIn se_X3_lockIn (W.lt 25 (by decide)) (sh_25 W) rfl rfl (Nat.le_of_ble_eq_true rfl) ?_
  intro r S' h' hq
  obtain ⟨e1, hh, e3⟩ := hq
  rw [e1, hh, e3]
  refine j_istore_n C dX3_takeLock_5 rfl (by decide) rfl ?_
  refine j_iload_n C dX3_takeLock_6 rfl rfl ?_
  refine j_if_ge (tgt := 12) C dX3_takeLock_7 (by decide) (fun c0 => ?_) (fun c0 => ?_)
  · have hP := hP.1 c0
    rw [if_pos c0] at hR
    refine j_aload_n C dX3_takeLock_12 rfl rfl ?_
    refine gCRX3_33 C dX3_takeLock_13 (W.lt 25 (by decide)) (sh_25 W) rfl ?_
    refine j_iload_n C dX3_takeLock_16 rfl rfl ?_
    obtain ⟨p3, hP⟩ := hP
    refine j_iald (k := 33) (v := (h 33 ((FX3_lockIn_oc1 a1 h).toNatClampNeg))) C dX3_takeLock_17 (W.lt 33 (by decide)) (sh_33 W) p3 rfl ?_
    refine j_iload_n C dX3_takeLock_18 rfl rfl ?_
    refine j_icmp_ne (tgt := 24) C dX3_takeLock_19 (by decide) (fun c1 => ?_) (fun c1 => ?_)
    · have hP := hP.2 c1
      rw [if_neg c1] at hR
      refine j_aload_n C dX3_takeLock_24 rfl rfl ?_
      refine j_iload_n C dX3_takeLock_25 rfl rfl ?_
      refine j_iload_n C dX3_takeLock_26 rfl rfl ?_
      obtain ⟨p3, hP⟩ := hP
      refine j_callV C (MX3_own_oc1 W a0 (FX3_lockIn_oc1 a1 h) h p3) dX3_takeLock_27 (CKX3_own (by decide)) ⟨rfl, rfl⟩ lk_RX3_199 in_X3_own se_X3_own (W.lt 25 (by decide)) (sh_25 W) rfl rfl (Nat.le_of_ble_eq_true rfl) ?_
      intro r S' h' hq
      obtain ⟨e1, e2, e3⟩ := hq
      rw [e1, e2, e3]
      exact RETi_u hR _ _ dX3_takeLock_30
    · have hP := hP.1 c1
      rw [if_pos c1] at hR
      refine j_iconst (v := 5) C dX3_takeLock_22 (by decide) ?_
      exact RETi_u hR _ _ dX3_takeLock_23
  · have hP := hP.2 c0
    rw [if_neg c0] at hR
    refine j_iconst (v := 1) C dX3_takeLock_10 (by decide) ?_
    exact RETi_u hR _ _ dX3_takeLock_11
theorem MX3_takeLock_oc1 {l0 : Launch} {Y : fj_Y} {ad : Nat → Nat} {n : Nat} {S : ph_S} (W : WS 1 n S) (a0 : Int32) (a1 : Int32) (h : ph_H) (hP : PX3_takeLock_oc1 a0 a1 h) : MI l0 yX3_takeLock cX3_takeLock 4 (some .int) ({ frames := 1, cells := 0, slots := 0, locals := 22 } : Room) Y ad n S h [.ref (ad 25), .int a0, .int a1] (fun r S' h' => S' = S ∧ h' = (FX3_takeLock_oc1 a0 a1 h).2 ∧ r = (FX3_takeLock_oc1 a0 a1 h).1) := met_i (by decide) (Nat.le_of_ble_eq_true rfl) (fun _ _ _ _ => rfl) (fun X C K => j_vl (tX3_takeLock_oc1 W C a0 a1 h hP (fun pc lv hd => K _ _ _ ⟨rfl, rfl, rfl⟩ pc lv hd)) ⟨rfl, rfl, rfl, trivial⟩)

-- X3_wakeSleepers_oc1
def FX3_wakeSleepers_oc1_64 (L28 : Int32 → Int32 → ph_H → Int32 × ph_H) (x3 : Int32) (x4 : Int32) (h : ph_H) : Int32 × ph_H := L28 x3 (x4 + 1) h
def PX3_wakeSleepers_oc1_64 (LP28 : Int32 → Int32 → ph_H → Prop) (x3 : Int32) (x4 : Int32) (h : ph_H) : Prop := LP28 x3 (x4 + 1) h
set_option maxRecDepth 100000 in
set_option maxHeartbeats 4000000 in
theorem tX3_wakeSleepers_oc1_64 {X : fj_X} {Y : fj_Y} {l0 : Launch} {ad : Nat → Nat} {n : Nat} {S : ph_S} (W : WS 1 n S) (C : FC X Y l0 cX3_wakeSleepers 5 RX3 ({ frames := 1, cells := 0, slots := 0, locals := 21 } : Room) 0 0 (some .int)) (L28 : Int32 → Int32 → ph_H → Int32 × ph_H) (LP28 : Int32 → Int32 → ph_H → Prop) (hL28 : ∀ (x3 : Int32) (x4 : Int32) (h : ph_H), LP28 x3 x4 h → RETi X Y ad n S cX3_wakeSleepers (L28 x3 x4 h) → FJ X Y ad n S h 28 [(0, .ref (ad 25)), (3, .int x3), (4, .int x4)] []) (x3 : Int32) (x4 : Int32) (h : ph_H) (hP : PX3_wakeSleepers_oc1_64 LP28 x3 x4 h) (hR : RETi X Y ad n S cX3_wakeSleepers (FX3_wakeSleepers_oc1_64 L28 x3 x4 h)) : FJ X Y ad n S h 64 [(0, .ref (ad 25)), (3, .int x3), (4, .int x4)] [] := by
  unfold PX3_wakeSleepers_oc1_64 at hP
  unfold FX3_wakeSleepers_oc1_64 at hR
  refine j_iinc (v := (x4 + 1)) C dX3_wakeSleepers_64 rfl rfl (by decide) rfl ?_
  refine j_goto (tgt := 28) C dX3_wakeSleepers_67 (by decide) ?_
  exact j_vl (hL28 x3 (x4 + 1) h hP hR) ⟨rfl, rfl, rfl, trivial⟩
def FX3_wakeSleepers_oc1_28  : Nat → Int32 → Int32 → ph_H → Int32 × ph_H
  | 0, _, _, h => (0, h)
  | q + 1, x3, x4, h => if 4 ≤ x4 then ((0, (hs h 25 16 3))) else (if (h 29 (x4.toNatClampNeg)) = 2 then (if (h 30 (x4.toNatClampNeg)) = x3 then (FX3_wakeSleepers_oc1_64 (FX3_wakeSleepers_oc1_28  q) x3 x4 (hs h 29 x4.toNatClampNeg 3)) else (FX3_wakeSleepers_oc1_64 (FX3_wakeSleepers_oc1_28  q) x3 x4 h)) else (FX3_wakeSleepers_oc1_64 (FX3_wakeSleepers_oc1_28  q) x3 x4 h))
def PX3_wakeSleepers_oc1_28  : Nat → Int32 → Int32 → ph_H → Prop
  | 0, _, _, _ => False
  | q + 1, x3, x4, h => (4 ≤ x4 → (True)) ∧ (¬ 4 ≤ x4 → (vp_in x4 4 ∧ (((h 29 (x4.toNatClampNeg)) = 2 → (vp_in x4 4 ∧ (((h 30 (x4.toNatClampNeg)) = x3 → (vp_in x4 4 ∧ (PX3_wakeSleepers_oc1_64 (PX3_wakeSleepers_oc1_28  q) x3 x4 (hs h 29 x4.toNatClampNeg 3)))) ∧ (¬ (h 30 (x4.toNatClampNeg)) = x3 → (PX3_wakeSleepers_oc1_64 (PX3_wakeSleepers_oc1_28  q) x3 x4 h))))) ∧ (¬ (h 29 (x4.toNatClampNeg)) = 2 → (PX3_wakeSleepers_oc1_64 (PX3_wakeSleepers_oc1_28  q) x3 x4 h)))))
set_option maxRecDepth 100000 in
set_option maxHeartbeats 4000000 in
theorem tX3_wakeSleepers_oc1_28 {X : fj_X} {Y : fj_Y} {l0 : Launch} {ad : Nat → Nat} {n : Nat} {S : ph_S} (W : WS 1 n S) (C : FC X Y l0 cX3_wakeSleepers 5 RX3 ({ frames := 1, cells := 0, slots := 0, locals := 21 } : Room) 0 0 (some .int)) : ∀ (q : Nat) (x3 : Int32) (x4 : Int32) (h : ph_H), PX3_wakeSleepers_oc1_28  q x3 x4 h → RETi X Y ad n S cX3_wakeSleepers (FX3_wakeSleepers_oc1_28  q x3 x4 h) → FJ X Y ad n S h 28 [(0, .ref (ad 25)), (3, .int x3), (4, .int x4)] [] := by
  intro q
  induction q with
  | zero =>
    intro x3 x4 h hP hR
    exact absurd hP id
  | succ q ih =>
    intro x3 x4 h hP hR
    unfold PX3_wakeSleepers_oc1_28 at hP
    unfold FX3_wakeSleepers_oc1_28 at hR
    refine j_iload C dX3_wakeSleepers_28 rfl ?_
    refine j_iconst (v := 4) C dX3_wakeSleepers_30 (by decide) ?_
    refine j_icmp_ge (tgt := 70) C dX3_wakeSleepers_31 (by decide) (fun c0 => ?_) (fun c0 => ?_)
    · have hP := hP.1 c0
      rw [if_pos c0] at hR
      refine j_aload_n C dX3_wakeSleepers_70 rfl rfl ?_
      refine j_iconst (v := 3) C dX3_wakeSleepers_71 (by decide) ?_
      refine pCRX3_120 C dX3_wakeSleepers_72 (W.lt 25 (by decide)) (sh_25 W) rfl ?_
      refine j_iconst (v := 0) C dX3_wakeSleepers_75 (by decide) ?_
      exact RETi_u hR _ _ dX3_wakeSleepers_76
    · have hP := hP.2 c0
      rw [if_neg c0] at hR
      refine j_aload_n C dX3_wakeSleepers_34 rfl rfl ?_
      refine gCRX3_21 C dX3_wakeSleepers_35 (W.lt 25 (by decide)) (sh_25 W) rfl ?_
      refine j_iload C dX3_wakeSleepers_38 rfl ?_
      obtain ⟨p3, hP⟩ := hP
      refine j_iald (k := 29) (v := (h 29 (x4.toNatClampNeg))) C dX3_wakeSleepers_40 (W.lt 29 (by decide)) (sh_29 W) p3 rfl ?_
      refine j_iconst (v := 2) C dX3_wakeSleepers_41 (by decide) ?_
      refine j_icmp_ne (tgt := 64) C dX3_wakeSleepers_42 (by decide) (fun c1 => ?_) (fun c1 => ?_)
      · have hP := hP.2 c1
        rw [if_neg c1] at hR
        exact j_vl (tX3_wakeSleepers_oc1_64 W C (FX3_wakeSleepers_oc1_28  q) (PX3_wakeSleepers_oc1_28  q) (ih) x3 x4 h hP hR) ⟨rfl, rfl, rfl, trivial⟩
      · have hP := hP.1 c1
        rw [if_pos c1] at hR
        refine j_aload_n C dX3_wakeSleepers_45 rfl rfl ?_
        refine gCRX3_24 C dX3_wakeSleepers_46 (W.lt 25 (by decide)) (sh_25 W) rfl ?_
        refine j_iload C dX3_wakeSleepers_49 rfl ?_
        obtain ⟨p3, hP⟩ := hP
        refine j_iald (k := 30) (v := (h 30 (x4.toNatClampNeg))) C dX3_wakeSleepers_51 (W.lt 30 (by decide)) (sh_30 W) p3 rfl ?_
        refine j_iload_n C dX3_wakeSleepers_52 rfl rfl ?_
        refine j_icmp_ne (tgt := 64) C dX3_wakeSleepers_53 (by decide) (fun c2 => ?_) (fun c2 => ?_)
        · have hP := hP.2 c2
          rw [if_neg c2] at hR
          exact j_vl (tX3_wakeSleepers_oc1_64 W C (FX3_wakeSleepers_oc1_28  q) (PX3_wakeSleepers_oc1_28  q) (ih) x3 x4 h hP hR) ⟨rfl, rfl, rfl, trivial⟩
        · have hP := hP.1 c2
          rw [if_pos c2] at hR
          refine j_aload_n C dX3_wakeSleepers_56 rfl rfl ?_
          refine gCRX3_21 C dX3_wakeSleepers_57 (W.lt 25 (by decide)) (sh_25 W) rfl ?_
          refine j_iload C dX3_wakeSleepers_60 rfl ?_
          refine j_iconst (v := 3) C dX3_wakeSleepers_62 (by decide) ?_
          obtain ⟨p4, hP⟩ := hP
          refine j_iast (k := 29) C dX3_wakeSleepers_63 (W.lt 29 (by decide)) (sh_29 W) p4 ?_
          exact j_vl (tX3_wakeSleepers_oc1_64 W C (FX3_wakeSleepers_oc1_28  q) (PX3_wakeSleepers_oc1_28  q) (ih) x3 x4 (hs h 29 x4.toNatClampNeg 3) hP hR) ⟨rfl, rfl, rfl, trivial⟩
def FX3_wakeSleepers_oc1 (a0 : Int32) (a1 : Int32) (h : ph_H) : Int32 × ph_H := if 0 ≤ (FX3_gateIn_oc1 a1 h) then (if (h 33 ((FX3_gateIn_oc1 a1 h).toNatClampNeg)) = a0 then (FX3_wakeSleepers_oc1_28 2000 (FX3_gateIn_oc1 a1 h) 0 h) else ((6, h))) else ((1, h))
def PX3_wakeSleepers_oc1 (a0 : Int32) (a1 : Int32) (h : ph_H) : Prop := (PX3_gateIn_oc1 a1 h) ∧ ((0 ≤ (FX3_gateIn_oc1 a1 h) → (vp_in (FX3_gateIn_oc1 a1 h) 12 ∧ (((h 33 ((FX3_gateIn_oc1 a1 h).toNatClampNeg)) = a0 → (PX3_wakeSleepers_oc1_28 2000 (FX3_gateIn_oc1 a1 h) 0 h)) ∧ (¬ (h 33 ((FX3_gateIn_oc1 a1 h).toNatClampNeg)) = a0 → (True))))) ∧ (¬ 0 ≤ (FX3_gateIn_oc1 a1 h) → (True)))
set_option maxRecDepth 100000 in
set_option maxHeartbeats 4000000 in
theorem tX3_wakeSleepers_oc1 {X : fj_X} {Y : fj_Y} {l0 : Launch} {ad : Nat → Nat} {n : Nat} {S : ph_S} (W : WS 1 n S) (C : FC X Y l0 cX3_wakeSleepers 5 RX3 ({ frames := 1, cells := 0, slots := 0, locals := 21 } : Room) 0 0 (some .int)) (a0 : Int32) (a1 : Int32) (h : ph_H) (hP : PX3_wakeSleepers_oc1 a0 a1 h) (hR : RETi X Y ad n S cX3_wakeSleepers (FX3_wakeSleepers_oc1 a0 a1 h)) : FJ X Y ad n S h 0 [(0, .ref (ad 25)), (1, .int a0), (2, .int a1)] [] := by
  unfold PX3_wakeSleepers_oc1 at hP
  unfold FX3_wakeSleepers_oc1 at hR
  refine j_aload_n C dX3_wakeSleepers_0 rfl rfl ?_
  refine j_iload_n C dX3_wakeSleepers_1 rfl rfl ?_
  obtain ⟨p2, hP⟩ := hP
  refine j_callV C (MX3_gateIn_oc1 W a1 h p2) dX3_wakeSleepers_2 (CKX3_gateIn (by decide)) ⟨rfl, rfl⟩ lk_RX3_205 in_X3_gateIn se_X3_gateIn (W.lt 25 (by decide)) (sh_25 W) rfl rfl (Nat.le_of_ble_eq_true rfl) ?_
  intro r S' h' hq
  obtain ⟨e1, hh, e3⟩ := hq
  rw [e1, hh, e3]
  refine j_istore_n C dX3_wakeSleepers_5 rfl (by decide) rfl ?_
  refine j_iload_n C dX3_wakeSleepers_6 rfl rfl ?_
  refine j_if_ge (tgt := 12) C dX3_wakeSleepers_7 (by decide) (fun c0 => ?_) (fun c0 => ?_)
  · have hP := hP.1 c0
    rw [if_pos c0] at hR
    refine j_aload_n C dX3_wakeSleepers_12 rfl rfl ?_
    refine gCRX3_33 C dX3_wakeSleepers_13 (W.lt 25 (by decide)) (sh_25 W) rfl ?_
    refine j_iload_n C dX3_wakeSleepers_16 rfl rfl ?_
    obtain ⟨p3, hP⟩ := hP
    refine j_iald (k := 33) (v := (h 33 ((FX3_gateIn_oc1 a1 h).toNatClampNeg))) C dX3_wakeSleepers_17 (W.lt 33 (by decide)) (sh_33 W) p3 rfl ?_
    refine j_iload_n C dX3_wakeSleepers_18 rfl rfl ?_
    refine j_icmp_eq (tgt := 25) C dX3_wakeSleepers_19 (by decide) (fun c1 => ?_) (fun c1 => ?_)
    · have hP := hP.1 c1
      rw [if_pos c1] at hR
      refine j_iconst (v := 0) C dX3_wakeSleepers_25 (by decide) ?_
      refine j_istore C dX3_wakeSleepers_26 (by decide) rfl ?_
      exact j_vl (tX3_wakeSleepers_oc1_28 W C 2000 (FX3_gateIn_oc1 a1 h) 0 h hP hR) ⟨rfl, rfl, rfl, trivial⟩
    · have hP := hP.2 c1
      rw [if_neg c1] at hR
      refine j_bipush (v := 6) C dX3_wakeSleepers_22 (by decide) ?_
      exact RETi_u hR _ _ dX3_wakeSleepers_24
  · have hP := hP.2 c0
    rw [if_neg c0] at hR
    refine j_iconst (v := 1) C dX3_wakeSleepers_10 (by decide) ?_
    exact RETi_u hR _ _ dX3_wakeSleepers_11
theorem MX3_wakeSleepers_oc1 {l0 : Launch} {Y : fj_Y} {ad : Nat → Nat} {n : Nat} {S : ph_S} (W : WS 1 n S) (a0 : Int32) (a1 : Int32) (h : ph_H) (hP : PX3_wakeSleepers_oc1 a0 a1 h) : MI l0 yX3_wakeSleepers cX3_wakeSleepers 5 (some .int) ({ frames := 1, cells := 0, slots := 0, locals := 21 } : Room) Y ad n S h [.ref (ad 25), .int a0, .int a1] (fun r S' h' => S' = S ∧ h' = (FX3_wakeSleepers_oc1 a0 a1 h).2 ∧ r = (FX3_wakeSleepers_oc1 a0 a1 h).1) := met_i (by decide) (Nat.le_of_ble_eq_true rfl) (fun _ _ _ _ => rfl) (fun X C K => j_vl (tX3_wakeSleepers_oc1 W C a0 a1 h hP (fun pc lv hd => K _ _ _ ⟨rfl, rfl, rfl⟩ pc lv hd)) ⟨rfl, rfl, rfl, trivial⟩)

-- X3_writeRow_oc1
def FX3_writeRow_oc1 (a0 : Int32) (a1 : Int32) (a2 : Int32) (h : ph_H) : Int32 × ph_H := if (h 26 (a0.toNatClampNeg)) = 1 then (if (FX3_bothNumbers_oc1 a1 a2 h) = 0 then ((1, h)) else (if (FX3_hasRowPlace_oc1 (h 27 (a0.toNatClampNeg)) (h 27 (a1.toNatClampNeg)) h) = 0 then ((4, h)) else ((0, (hs (hs h 25 15 ((100 + ((h 27 (a0.toNatClampNeg)) * 20)) + (h 27 (a1.toNatClampNeg)))) 34 (((h 27 (a0.toNatClampNeg)) * 16) + (h 27 (a1.toNatClampNeg))).toNatClampNeg (h 27 (a2.toNatClampNeg))))))) else ((1, h))
def PX3_writeRow_oc1 (a0 : Int32) (a1 : Int32) (a2 : Int32) (h : ph_H) : Prop := vp_in a0 28 ∧ (((h 26 (a0.toNatClampNeg)) = 1 → ((PX3_bothNumbers_oc1 a1 a2 h) ∧ (((FX3_bothNumbers_oc1 a1 a2 h) = 0 → (True)) ∧ (¬ (FX3_bothNumbers_oc1 a1 a2 h) = 0 → (vp_in a0 28 ∧ (vp_in a1 28 ∧ ((PX3_hasRowPlace_oc1 (h 27 (a0.toNatClampNeg)) (h 27 (a1.toNatClampNeg)) h) ∧ (((FX3_hasRowPlace_oc1 (h 27 (a0.toNatClampNeg)) (h 27 (a1.toNatClampNeg)) h) = 0 → (True)) ∧ (¬ (FX3_hasRowPlace_oc1 (h 27 (a0.toNatClampNeg)) (h 27 (a1.toNatClampNeg)) h) = 0 → (vp_in a2 28 ∧ (vp_in (((h 27 (a0.toNatClampNeg)) * 16) + (h 27 (a1.toNatClampNeg))) 192 ∧ (True)))))))))))) ∧ (¬ (h 26 (a0.toNatClampNeg)) = 1 → (True)))
set_option maxRecDepth 100000 in
set_option maxHeartbeats 4000000 in
theorem tX3_writeRow_oc1 {X : fj_X} {Y : fj_Y} {l0 : Launch} {ad : Nat → Nat} {n : Nat} {S : ph_S} (W : WS 1 n S) (C : FC X Y l0 cX3_writeRow 6 RX3 ({ frames := 1, cells := 0, slots := 0, locals := 22 } : Room) 0 0 (some .int)) (a0 : Int32) (a1 : Int32) (a2 : Int32) (h : ph_H) (hP : PX3_writeRow_oc1 a0 a1 a2 h) (hR : RETi X Y ad n S cX3_writeRow (FX3_writeRow_oc1 a0 a1 a2 h)) : FJ X Y ad n S h 0 [(0, .ref (ad 25)), (1, .int a0), (2, .int a1), (3, .int a2)] [] := by
  unfold PX3_writeRow_oc1 at hP
  unfold FX3_writeRow_oc1 at hR
  refine j_aload_n C dX3_writeRow_0 rfl rfl ?_
  refine gCRX3_9 C dX3_writeRow_1 (W.lt 25 (by decide)) (sh_25 W) rfl ?_
  refine j_iload_n C dX3_writeRow_4 rfl rfl ?_
  obtain ⟨p3, hP⟩ := hP
  refine j_iald (k := 26) (v := (h 26 (a0.toNatClampNeg))) C dX3_writeRow_5 (W.lt 26 (by decide)) (sh_26 W) p3 rfl ?_
  refine j_iconst (v := 1) C dX3_writeRow_6 (by decide) ?_
  refine j_icmp_ne (tgt := 19) C dX3_writeRow_7 (by decide) (fun c0 => ?_) (fun c0 => ?_)
  · have hP := hP.2 c0
    rw [if_neg c0] at hR
    refine j_iconst (v := 1) C dX3_writeRow_19 (by decide) ?_
    exact RETi_u hR _ _ dX3_writeRow_20
  · have hP := hP.1 c0
    rw [if_pos c0] at hR
    refine j_aload_n C dX3_writeRow_10 rfl rfl ?_
    refine j_iload_n C dX3_writeRow_11 rfl rfl ?_
    refine j_iload_n C dX3_writeRow_12 rfl rfl ?_
    obtain ⟨p3, hP⟩ := hP
    refine j_callV C (MX3_bothNumbers_oc1 W a1 a2 h p3) dX3_writeRow_13 (CKX3_bothNumbers (by decide)) ⟨rfl, rfl⟩ lk_RX3_190 in_X3_bothNumbers se_X3_bothNumbers (W.lt 25 (by decide)) (sh_25 W) rfl rfl (Nat.le_of_ble_eq_true rfl) ?_
    intro r S' h' hq
    obtain ⟨e1, hh, e3, hb5⟩ := hq
    rw [e1, hh, e3]
    refine j_if_ne (tgt := 21) C dX3_writeRow_16 (by decide) (fun c1 => ?_) (fun c1 => ?_)
    · have hP := hP.2 c1
      rw [if_neg c1] at hR
      refine j_aload_n C dX3_writeRow_21 rfl rfl ?_
      refine gCRX3_15 C dX3_writeRow_22 (W.lt 25 (by decide)) (sh_25 W) rfl ?_
      refine j_iload_n C dX3_writeRow_25 rfl rfl ?_
      obtain ⟨p3, hP⟩ := hP
      refine j_iald (k := 27) (v := (h 27 (a0.toNatClampNeg))) C dX3_writeRow_26 (W.lt 27 (by decide)) (sh_27 W) p3 rfl ?_
      refine j_istore C dX3_writeRow_27 (by decide) rfl ?_
      refine j_aload_n C dX3_writeRow_29 rfl rfl ?_
      refine gCRX3_15 C dX3_writeRow_30 (W.lt 25 (by decide)) (sh_25 W) rfl ?_
      refine j_iload_n C dX3_writeRow_33 rfl rfl ?_
      obtain ⟨p9, hP⟩ := hP
      refine j_iald (k := 27) (v := (h 27 (a1.toNatClampNeg))) C dX3_writeRow_34 (W.lt 27 (by decide)) (sh_27 W) p9 rfl ?_
      refine j_istore C dX3_writeRow_35 (by decide) rfl ?_
      refine j_aload_n C dX3_writeRow_37 rfl rfl ?_
      refine j_iload C dX3_writeRow_38 rfl ?_
      refine j_iload C dX3_writeRow_40 rfl ?_
      obtain ⟨p15, hP⟩ := hP
      refine j_callV C (MX3_hasRowPlace_oc1 W (h 27 (a0.toNatClampNeg)) (h 27 (a1.toNatClampNeg)) h p15) dX3_writeRow_42 (CKX3_hasRowPlace (by decide)) ⟨rfl, rfl⟩ lk_RX3_196 in_X3_hasRowPlace se_X3_hasRowPlace (W.lt 25 (by decide)) (sh_25 W) rfl rfl (Nat.le_of_ble_eq_true rfl) ?_
      intro r S' h' hq
      obtain ⟨e1, hh, e3, hb17⟩ := hq
      rw [e1, hh, e3]
      refine j_if_ne (tgt := 50) C dX3_writeRow_45 (by decide) (fun c2 => ?_) (fun c2 => ?_)
      · have hP := hP.2 c2
        rw [if_neg c2] at hR
        refine j_aload_n C dX3_writeRow_50 rfl rfl ?_
        refine j_bipush (v := 100) C dX3_writeRow_51 (by decide) ?_
        refine j_iload C dX3_writeRow_53 rfl ?_
        refine j_bipush (v := 20) C dX3_writeRow_55 (by decide) ?_
        refine j_imul C dX3_writeRow_57 ?_
        refine j_iadd C dX3_writeRow_58 ?_
        refine j_iload C dX3_writeRow_59 rfl ?_
        refine j_iadd C dX3_writeRow_61 ?_
        refine pCRX3_117 C dX3_writeRow_62 (W.lt 25 (by decide)) (sh_25 W) rfl ?_
        refine j_aload_n C dX3_writeRow_65 rfl rfl ?_
        refine gCRX3_36 C dX3_writeRow_66 (W.lt 25 (by decide)) (sh_25 W) rfl ?_
        refine j_iload C dX3_writeRow_69 rfl ?_
        refine j_bipush (v := 16) C dX3_writeRow_71 (by decide) ?_
        refine j_imul C dX3_writeRow_73 ?_
        refine j_iload C dX3_writeRow_74 rfl ?_
        refine j_iadd C dX3_writeRow_76 ?_
        refine j_aload_n C dX3_writeRow_77 rfl rfl ?_
        refine gCRX3_15 C dX3_writeRow_78 (W.lt 25 (by decide)) (sh_25 W) rfl ?_
        refine j_iload_n C dX3_writeRow_81 rfl rfl ?_
        obtain ⟨p19, hP⟩ := hP
        refine j_iald (k := 27) (v := (h 27 (a2.toNatClampNeg))) C dX3_writeRow_82 (W.lt 27 (by decide)) (sh_27 W) p19 (hz_k (by decide)) ?_
        obtain ⟨p21, hP⟩ := hP
        refine j_iast (k := 34) C dX3_writeRow_83 (W.lt 34 (by decide)) (sh_34 W) p21 ?_
        refine j_iconst (v := 0) C dX3_writeRow_84 (by decide) ?_
        exact RETi_u hR _ _ dX3_writeRow_85
      · have hP := hP.1 c2
        rw [if_pos c2] at hR
        refine j_iconst (v := 4) C dX3_writeRow_48 (by decide) ?_
        exact RETi_u hR _ _ dX3_writeRow_49
    · have hP := hP.1 c1
      rw [if_pos c1] at hR
      refine j_iconst (v := 1) C dX3_writeRow_19 (by decide) ?_
      exact RETi_u hR _ _ dX3_writeRow_20
theorem MX3_writeRow_oc1 {l0 : Launch} {Y : fj_Y} {ad : Nat → Nat} {n : Nat} {S : ph_S} (W : WS 1 n S) (a0 : Int32) (a1 : Int32) (a2 : Int32) (h : ph_H) (hP : PX3_writeRow_oc1 a0 a1 a2 h) : MI l0 yX3_writeRow cX3_writeRow 6 (some .int) ({ frames := 1, cells := 0, slots := 0, locals := 22 } : Room) Y ad n S h [.ref (ad 25), .int a0, .int a1, .int a2] (fun r S' h' => S' = S ∧ h' = (FX3_writeRow_oc1 a0 a1 a2 h).2 ∧ r = (FX3_writeRow_oc1 a0 a1 a2 h).1) := met_i (by decide) (Nat.le_of_ble_eq_true rfl) (fun _ _ _ _ => rfl) (fun X C K => j_vl (tX3_writeRow_oc1 W C a0 a1 a2 h hP (fun pc lv hd => K _ _ _ ⟨rfl, rfl, rfl⟩ pc lv hd)) ⟨rfl, rfl, rfl, rfl, trivial⟩)

-- X3_perform_oc1
def FX3_perform_oc1_288  (s0 : Int32) (s1 : Int32) (h : ph_H) : Int32 × ph_H := ((FX3_makeLock_oc1 s1 s0 h).1, (FX3_makeLock_oc1 s1 s0 h).2)
def PX3_perform_oc1_288  (s0 : Int32) (s1 : Int32) (h : ph_H) : Prop := (PX3_makeLock_oc1 s1 s0 h) ∧ (True)
set_option maxRecDepth 100000 in
set_option maxHeartbeats 4000000 in
theorem tX3_perform_oc1_288 {X : fj_X} {Y : fj_Y} {l0 : Launch} {ad : Nat → Nat} {n : Nat} {S : ph_S} (W : WS 1 n S) (C : FC X Y l0 cX3_perform 8 RX3 ({ frames := 2, cells := 0, slots := 0, locals := 49 } : Room) 0 0 (some .int)) (s0 : Int32) (s1 : Int32) (h : ph_H) (hP : PX3_perform_oc1_288  s0 s1 h) (hR : RETi X Y ad n S cX3_perform (FX3_perform_oc1_288  s0 s1 h)) : FJ X Y ad n S h 288 [] [.int s0, .int s1, .ref (ad 25)] := by
  unfold PX3_perform_oc1_288 at hP
  unfold FX3_perform_oc1_288 at hR
  obtain ⟨p0, hP⟩ := hP
  refine j_callV C (MX3_makeLock_oc1 W s1 s0 h p0) dX3_perform_288 (CKX3_makeLock (by decide)) ⟨rfl, rfl⟩ lk_RX3_168 in_X3_makeLock se_X3_makeLock (W.lt 25 (by decide)) (sh_25 W) rfl rfl (Nat.le_of_ble_eq_true rfl) ?_
  intro r S' h' hq
  obtain ⟨e1, e2, e3⟩ := hq
  rw [e1, e2, e3]
  exact RETi_u hR _ _ dX3_perform_291
def FX3_perform_oc1 (a0 : Int32) (h : ph_H) : Int32 × ph_H := if (h 3 ((FX5_firstPart_n a0 (h 28 (a0.toNatClampNeg)) h).toNatClampNeg)) = 0 then (((FX3_hold_oc1 (FX3_slotOf a0 (h 3 (((FX5_firstPart_n a0 (h 28 (a0.toNatClampNeg)) h) + 1).toNatClampNeg))) 0 (h 3 (((FX5_firstPart_n a0 (h 28 (a0.toNatClampNeg)) h) + 2).toNatClampNeg)) h).1, (FX3_hold_oc1 (FX3_slotOf a0 (h 3 (((FX5_firstPart_n a0 (h 28 (a0.toNatClampNeg)) h) + 1).toNatClampNeg))) 0 (h 3 (((FX5_firstPart_n a0 (h 28 (a0.toNatClampNeg)) h) + 2).toNatClampNeg)) h).2)) else (if (h 3 ((FX5_firstPart_n a0 (h 28 (a0.toNatClampNeg)) h).toNatClampNeg)) = 1 then (((FX3_getCell_oc1 (FX3_slotOf a0 (h 3 (((FX5_firstPart_n a0 (h 28 (a0.toNatClampNeg)) h) + 1).toNatClampNeg))) (FJ9_floorMod_7cf53 (h 3 (((FX5_firstPart_n a0 (h 28 (a0.toNatClampNeg)) h) + 2).toNatClampNeg)) 12) h).1, (FX3_getCell_oc1 (FX3_slotOf a0 (h 3 (((FX5_firstPart_n a0 (h 28 (a0.toNatClampNeg)) h) + 1).toNatClampNeg))) (FJ9_floorMod_7cf53 (h 3 (((FX5_firstPart_n a0 (h 28 (a0.toNatClampNeg)) h) + 2).toNatClampNeg)) 12) h).2)) else (if (h 3 ((FX5_firstPart_n a0 (h 28 (a0.toNatClampNeg)) h).toNatClampNeg)) = 2 then (((FX3_putCell_oc1 (FJ9_floorMod_7cf53 (h 3 (((FX5_firstPart_n a0 (h 28 (a0.toNatClampNeg)) h) + 1).toNatClampNeg)) 12) (FX3_slotOf a0 (h 3 (((FX5_firstPart_n a0 (h 28 (a0.toNatClampNeg)) h) + 2).toNatClampNeg))) h).1, (FX3_putCell_oc1 (FJ9_floorMod_7cf53 (h 3 (((FX5_firstPart_n a0 (h 28 (a0.toNatClampNeg)) h) + 1).toNatClampNeg)) 12) (FX3_slotOf a0 (h 3 (((FX5_firstPart_n a0 (h 28 (a0.toNatClampNeg)) h) + 2).toNatClampNeg))) h).2)) else (if (h 3 ((FX5_firstPart_n a0 (h 28 (a0.toNatClampNeg)) h).toNatClampNeg)) = 3 then (((FX3_reckon_oc1 (h 3 ((FX5_firstPart_n a0 (h 28 (a0.toNatClampNeg)) h).toNatClampNeg)) (FX3_slotOf a0 (h 3 (((FX5_firstPart_n a0 (h 28 (a0.toNatClampNeg)) h) + 1).toNatClampNeg))) (FX3_slotOf a0 (h 3 (((FX5_firstPart_n a0 (h 28 (a0.toNatClampNeg)) h) + 2).toNatClampNeg))) h).1, (FX3_reckon_oc1 (h 3 ((FX5_firstPart_n a0 (h 28 (a0.toNatClampNeg)) h).toNatClampNeg)) (FX3_slotOf a0 (h 3 (((FX5_firstPart_n a0 (h 28 (a0.toNatClampNeg)) h) + 1).toNatClampNeg))) (FX3_slotOf a0 (h 3 (((FX5_firstPart_n a0 (h 28 (a0.toNatClampNeg)) h) + 2).toNatClampNeg))) h).2)) else (if (h 3 ((FX5_firstPart_n a0 (h 28 (a0.toNatClampNeg)) h).toNatClampNeg)) = 4 then (((FX3_reckon_oc1 (h 3 ((FX5_firstPart_n a0 (h 28 (a0.toNatClampNeg)) h).toNatClampNeg)) (FX3_slotOf a0 (h 3 (((FX5_firstPart_n a0 (h 28 (a0.toNatClampNeg)) h) + 1).toNatClampNeg))) (FX3_slotOf a0 (h 3 (((FX5_firstPart_n a0 (h 28 (a0.toNatClampNeg)) h) + 2).toNatClampNeg))) h).1, (FX3_reckon_oc1 (h 3 ((FX5_firstPart_n a0 (h 28 (a0.toNatClampNeg)) h).toNatClampNeg)) (FX3_slotOf a0 (h 3 (((FX5_firstPart_n a0 (h 28 (a0.toNatClampNeg)) h) + 1).toNatClampNeg))) (FX3_slotOf a0 (h 3 (((FX5_firstPart_n a0 (h 28 (a0.toNatClampNeg)) h) + 2).toNatClampNeg))) h).2)) else (if (h 3 ((FX5_firstPart_n a0 (h 28 (a0.toNatClampNeg)) h).toNatClampNeg)) = 5 then (((FX3_reckon_oc1 (h 3 ((FX5_firstPart_n a0 (h 28 (a0.toNatClampNeg)) h).toNatClampNeg)) (FX3_slotOf a0 (h 3 (((FX5_firstPart_n a0 (h 28 (a0.toNatClampNeg)) h) + 1).toNatClampNeg))) (FX3_slotOf a0 (h 3 (((FX5_firstPart_n a0 (h 28 (a0.toNatClampNeg)) h) + 2).toNatClampNeg))) h).1, (FX3_reckon_oc1 (h 3 ((FX5_firstPart_n a0 (h 28 (a0.toNatClampNeg)) h).toNatClampNeg)) (FX3_slotOf a0 (h 3 (((FX5_firstPart_n a0 (h 28 (a0.toNatClampNeg)) h) + 1).toNatClampNeg))) (FX3_slotOf a0 (h 3 (((FX5_firstPart_n a0 (h 28 (a0.toNatClampNeg)) h) + 2).toNatClampNeg))) h).2)) else (if (h 3 ((FX5_firstPart_n a0 (h 28 (a0.toNatClampNeg)) h).toNatClampNeg)) = 6 then (((FX3_goTo_oc1 (h 3 (((FX5_firstPart_n a0 (h 28 (a0.toNatClampNeg)) h) + 1).toNatClampNeg)) h).1, (FX3_goTo_oc1 (h 3 (((FX5_firstPart_n a0 (h 28 (a0.toNatClampNeg)) h) + 1).toNatClampNeg)) h).2)) else (if (h 3 ((FX5_firstPart_n a0 (h 28 (a0.toNatClampNeg)) h).toNatClampNeg)) = 7 then (((FX3_goUnless_oc1 (FX3_slotOf a0 (h 3 (((FX5_firstPart_n a0 (h 28 (a0.toNatClampNeg)) h) + 1).toNatClampNeg))) (h 3 (((FX5_firstPart_n a0 (h 28 (a0.toNatClampNeg)) h) + 2).toNatClampNeg)) h).1, (FX3_goUnless_oc1 (FX3_slotOf a0 (h 3 (((FX5_firstPart_n a0 (h 28 (a0.toNatClampNeg)) h) + 1).toNatClampNeg))) (h 3 (((FX5_firstPart_n a0 (h 28 (a0.toNatClampNeg)) h) + 2).toNatClampNeg)) h).2)) else (if (h 3 ((FX5_firstPart_n a0 (h 28 (a0.toNatClampNeg)) h).toNatClampNeg)) = 8 then (((FX3_makeRow_oc1 (FX3_slotOf a0 (h 3 (((FX5_firstPart_n a0 (h 28 (a0.toNatClampNeg)) h) + 1).toNatClampNeg))) (FX3_slotOf a0 (h 3 (((FX5_firstPart_n a0 (h 28 (a0.toNatClampNeg)) h) + 2).toNatClampNeg))) h).1, (FX3_makeRow_oc1 (FX3_slotOf a0 (h 3 (((FX5_firstPart_n a0 (h 28 (a0.toNatClampNeg)) h) + 1).toNatClampNeg))) (FX3_slotOf a0 (h 3 (((FX5_firstPart_n a0 (h 28 (a0.toNatClampNeg)) h) + 2).toNatClampNeg))) h).2)) else (if (h 3 ((FX5_firstPart_n a0 (h 28 (a0.toNatClampNeg)) h).toNatClampNeg)) = 9 then (((FX3_readRow_oc1 (FX3_slotOf a0 (h 3 (((FX5_firstPart_n a0 (h 28 (a0.toNatClampNeg)) h) + 1).toNatClampNeg))) (FX3_slotOf a0 (h 3 (((FX5_firstPart_n a0 (h 28 (a0.toNatClampNeg)) h) + 2).toNatClampNeg))) (FX3_slotOf a0 (h 3 (((FX5_firstPart_n a0 (h 28 (a0.toNatClampNeg)) h) + 3).toNatClampNeg))) h).1, (FX3_readRow_oc1 (FX3_slotOf a0 (h 3 (((FX5_firstPart_n a0 (h 28 (a0.toNatClampNeg)) h) + 1).toNatClampNeg))) (FX3_slotOf a0 (h 3 (((FX5_firstPart_n a0 (h 28 (a0.toNatClampNeg)) h) + 2).toNatClampNeg))) (FX3_slotOf a0 (h 3 (((FX5_firstPart_n a0 (h 28 (a0.toNatClampNeg)) h) + 3).toNatClampNeg))) h).2)) else (if (h 3 ((FX5_firstPart_n a0 (h 28 (a0.toNatClampNeg)) h).toNatClampNeg)) = 10 then (((FX3_writeRow_oc1 (FX3_slotOf a0 (h 3 (((FX5_firstPart_n a0 (h 28 (a0.toNatClampNeg)) h) + 1).toNatClampNeg))) (FX3_slotOf a0 (h 3 (((FX5_firstPart_n a0 (h 28 (a0.toNatClampNeg)) h) + 2).toNatClampNeg))) (FX3_slotOf a0 (h 3 (((FX5_firstPart_n a0 (h 28 (a0.toNatClampNeg)) h) + 3).toNatClampNeg))) h).1, (FX3_writeRow_oc1 (FX3_slotOf a0 (h 3 (((FX5_firstPart_n a0 (h 28 (a0.toNatClampNeg)) h) + 1).toNatClampNeg))) (FX3_slotOf a0 (h 3 (((FX5_firstPart_n a0 (h 28 (a0.toNatClampNeg)) h) + 2).toNatClampNeg))) (FX3_slotOf a0 (h 3 (((FX5_firstPart_n a0 (h 28 (a0.toNatClampNeg)) h) + 3).toNatClampNeg))) h).2)) else (if (h 3 ((FX5_firstPart_n a0 (h 28 (a0.toNatClampNeg)) h).toNatClampNeg)) = 11 then (if ((h 3 (((FX5_firstPart_n a0 (h 28 (a0.toNatClampNeg)) h) + 2).toNatClampNeg)) &&& 1) = 0 then (FX3_perform_oc1_288  0 (FX3_slotOf a0 (h 3 (((FX5_firstPart_n a0 (h 28 (a0.toNatClampNeg)) h) + 1).toNatClampNeg))) h) else (FX3_perform_oc1_288  1 (FX3_slotOf a0 (h 3 (((FX5_firstPart_n a0 (h 28 (a0.toNatClampNeg)) h) + 1).toNatClampNeg))) h)) else (if (h 3 ((FX5_firstPart_n a0 (h 28 (a0.toNatClampNeg)) h).toNatClampNeg)) = 12 then (((FX3_takeLock_oc1 a0 (FX3_slotOf a0 (h 3 (((FX5_firstPart_n a0 (h 28 (a0.toNatClampNeg)) h) + 1).toNatClampNeg))) h).1, (FX3_takeLock_oc1 a0 (FX3_slotOf a0 (h 3 (((FX5_firstPart_n a0 (h 28 (a0.toNatClampNeg)) h) + 1).toNatClampNeg))) h).2)) else (if (h 3 ((FX5_firstPart_n a0 (h 28 (a0.toNatClampNeg)) h).toNatClampNeg)) = 13 then (((FX3_leaveLock_oc1 a0 (FX3_slotOf a0 (h 3 (((FX5_firstPart_n a0 (h 28 (a0.toNatClampNeg)) h) + 1).toNatClampNeg))) h).1, (FX3_leaveLock_oc1 a0 (FX3_slotOf a0 (h 3 (((FX5_firstPart_n a0 (h 28 (a0.toNatClampNeg)) h) + 1).toNatClampNeg))) h).2)) else (if (h 3 ((FX5_firstPart_n a0 (h 28 (a0.toNatClampNeg)) h).toNatClampNeg)) = 14 then (((FX3_lieDown_oc1 a0 (FX3_slotOf a0 (h 3 (((FX5_firstPart_n a0 (h 28 (a0.toNatClampNeg)) h) + 1).toNatClampNeg))) h).1, (FX3_lieDown_oc1 a0 (FX3_slotOf a0 (h 3 (((FX5_firstPart_n a0 (h 28 (a0.toNatClampNeg)) h) + 1).toNatClampNeg))) h).2)) else (if (h 3 ((FX5_firstPart_n a0 (h 28 (a0.toNatClampNeg)) h).toNatClampNeg)) = 15 then (((FX3_wakeSleepers_oc1 a0 (FX3_slotOf a0 (h 3 (((FX5_firstPart_n a0 (h 28 (a0.toNatClampNeg)) h) + 1).toNatClampNeg))) h).1, (FX3_wakeSleepers_oc1 a0 (FX3_slotOf a0 (h 3 (((FX5_firstPart_n a0 (h 28 (a0.toNatClampNeg)) h) + 1).toNatClampNeg))) h).2)) else (if (h 3 ((FX5_firstPart_n a0 (h 28 (a0.toNatClampNeg)) h).toNatClampNeg)) = 16 then (((FX3_takeInput_oc1 (FX3_slotOf a0 (h 3 (((FX5_firstPart_n a0 (h 28 (a0.toNatClampNeg)) h) + 1).toNatClampNeg))) h).1, (FX3_takeInput_oc1 (FX3_slotOf a0 (h 3 (((FX5_firstPart_n a0 (h 28 (a0.toNatClampNeg)) h) + 1).toNatClampNeg))) h).2)) else (if (h 3 ((FX5_firstPart_n a0 (h 28 (a0.toNatClampNeg)) h).toNatClampNeg)) = 17 then (((FX3_startThread_oc1 (FJ9_floorMod_7cf53 (h 3 (((FX5_firstPart_n a0 (h 28 (a0.toNatClampNeg)) h) + 1).toNatClampNeg)) 4) h).1, (FX3_startThread_oc1 (FJ9_floorMod_7cf53 (h 3 (((FX5_firstPart_n a0 (h 28 (a0.toNatClampNeg)) h) + 1).toNatClampNeg)) 4) h).2)) else (if (h 3 ((FX5_firstPart_n a0 (h 28 (a0.toNatClampNeg)) h).toNatClampNeg)) = 18 then (((10 + (FJ9_floorMod_7cf53 (h 3 (((FX5_firstPart_n a0 (h 28 (a0.toNatClampNeg)) h) + 2).toNatClampNeg)) 10)), h)) else (((FX3_goTo_oc1 24 h).1, (FX3_goTo_oc1 24 h).2))))))))))))))))))))
def PX3_perform_oc1 (a0 : Int32) (h : ph_H) : Prop := vp_in a0 4 ∧ ((PX5_firstPart_n a0 (h 28 (a0.toNatClampNeg)) h) ∧ (vp_in ((FX5_firstPart_n a0 (h 28 (a0.toNatClampNeg)) h) + 1) 384 ∧ (vp_in ((FX5_firstPart_n a0 (h 28 (a0.toNatClampNeg)) h) + 2) 384 ∧ ((PX3_slotOf a0 (h 3 (((FX5_firstPart_n a0 (h 28 (a0.toNatClampNeg)) h) + 1).toNatClampNeg))) ∧ ((PX3_slotOf a0 (h 3 (((FX5_firstPart_n a0 (h 28 (a0.toNatClampNeg)) h) + 2).toNatClampNeg))) ∧ (vp_in ((FX5_firstPart_n a0 (h 28 (a0.toNatClampNeg)) h) + 3) 384 ∧ ((PX3_slotOf a0 (h 3 (((FX5_firstPart_n a0 (h 28 (a0.toNatClampNeg)) h) + 3).toNatClampNeg))) ∧ (vp_in (FX5_firstPart_n a0 (h 28 (a0.toNatClampNeg)) h) 384 ∧ (((h 3 ((FX5_firstPart_n a0 (h 28 (a0.toNatClampNeg)) h).toNatClampNeg)) = 0 → ((PX3_hold_oc1 (FX3_slotOf a0 (h 3 (((FX5_firstPart_n a0 (h 28 (a0.toNatClampNeg)) h) + 1).toNatClampNeg))) 0 (h 3 (((FX5_firstPart_n a0 (h 28 (a0.toNatClampNeg)) h) + 2).toNatClampNeg)) h) ∧ (True))) ∧ (¬ (h 3 ((FX5_firstPart_n a0 (h 28 (a0.toNatClampNeg)) h).toNatClampNeg)) = 0 → (((h 3 ((FX5_firstPart_n a0 (h 28 (a0.toNatClampNeg)) h).toNatClampNeg)) = 1 → ((PJ9_floorMod_7cf53 (h 3 (((FX5_firstPart_n a0 (h 28 (a0.toNatClampNeg)) h) + 2).toNatClampNeg)) 12) ∧ ((PX3_getCell_oc1 (FX3_slotOf a0 (h 3 (((FX5_firstPart_n a0 (h 28 (a0.toNatClampNeg)) h) + 1).toNatClampNeg))) (FJ9_floorMod_7cf53 (h 3 (((FX5_firstPart_n a0 (h 28 (a0.toNatClampNeg)) h) + 2).toNatClampNeg)) 12) h) ∧ (True)))) ∧ (¬ (h 3 ((FX5_firstPart_n a0 (h 28 (a0.toNatClampNeg)) h).toNatClampNeg)) = 1 → (((h 3 ((FX5_firstPart_n a0 (h 28 (a0.toNatClampNeg)) h).toNatClampNeg)) = 2 → ((PJ9_floorMod_7cf53 (h 3 (((FX5_firstPart_n a0 (h 28 (a0.toNatClampNeg)) h) + 1).toNatClampNeg)) 12) ∧ ((PX3_putCell_oc1 (FJ9_floorMod_7cf53 (h 3 (((FX5_firstPart_n a0 (h 28 (a0.toNatClampNeg)) h) + 1).toNatClampNeg)) 12) (FX3_slotOf a0 (h 3 (((FX5_firstPart_n a0 (h 28 (a0.toNatClampNeg)) h) + 2).toNatClampNeg))) h) ∧ (True)))) ∧ (¬ (h 3 ((FX5_firstPart_n a0 (h 28 (a0.toNatClampNeg)) h).toNatClampNeg)) = 2 → (((h 3 ((FX5_firstPart_n a0 (h 28 (a0.toNatClampNeg)) h).toNatClampNeg)) = 3 → (vp_in (FX5_firstPart_n a0 (h 28 (a0.toNatClampNeg)) h) 384 ∧ ((PX3_reckon_oc1 (h 3 ((FX5_firstPart_n a0 (h 28 (a0.toNatClampNeg)) h).toNatClampNeg)) (FX3_slotOf a0 (h 3 (((FX5_firstPart_n a0 (h 28 (a0.toNatClampNeg)) h) + 1).toNatClampNeg))) (FX3_slotOf a0 (h 3 (((FX5_firstPart_n a0 (h 28 (a0.toNatClampNeg)) h) + 2).toNatClampNeg))) h) ∧ (True)))) ∧ (¬ (h 3 ((FX5_firstPart_n a0 (h 28 (a0.toNatClampNeg)) h).toNatClampNeg)) = 3 → (((h 3 ((FX5_firstPart_n a0 (h 28 (a0.toNatClampNeg)) h).toNatClampNeg)) = 4 → (vp_in (FX5_firstPart_n a0 (h 28 (a0.toNatClampNeg)) h) 384 ∧ ((PX3_reckon_oc1 (h 3 ((FX5_firstPart_n a0 (h 28 (a0.toNatClampNeg)) h).toNatClampNeg)) (FX3_slotOf a0 (h 3 (((FX5_firstPart_n a0 (h 28 (a0.toNatClampNeg)) h) + 1).toNatClampNeg))) (FX3_slotOf a0 (h 3 (((FX5_firstPart_n a0 (h 28 (a0.toNatClampNeg)) h) + 2).toNatClampNeg))) h) ∧ (True)))) ∧ (¬ (h 3 ((FX5_firstPart_n a0 (h 28 (a0.toNatClampNeg)) h).toNatClampNeg)) = 4 → (((h 3 ((FX5_firstPart_n a0 (h 28 (a0.toNatClampNeg)) h).toNatClampNeg)) = 5 → (vp_in (FX5_firstPart_n a0 (h 28 (a0.toNatClampNeg)) h) 384 ∧ ((PX3_reckon_oc1 (h 3 ((FX5_firstPart_n a0 (h 28 (a0.toNatClampNeg)) h).toNatClampNeg)) (FX3_slotOf a0 (h 3 (((FX5_firstPart_n a0 (h 28 (a0.toNatClampNeg)) h) + 1).toNatClampNeg))) (FX3_slotOf a0 (h 3 (((FX5_firstPart_n a0 (h 28 (a0.toNatClampNeg)) h) + 2).toNatClampNeg))) h) ∧ (True)))) ∧ (¬ (h 3 ((FX5_firstPart_n a0 (h 28 (a0.toNatClampNeg)) h).toNatClampNeg)) = 5 → (((h 3 ((FX5_firstPart_n a0 (h 28 (a0.toNatClampNeg)) h).toNatClampNeg)) = 6 → ((PX3_goTo_oc1 (h 3 (((FX5_firstPart_n a0 (h 28 (a0.toNatClampNeg)) h) + 1).toNatClampNeg)) h) ∧ (True))) ∧ (¬ (h 3 ((FX5_firstPart_n a0 (h 28 (a0.toNatClampNeg)) h).toNatClampNeg)) = 6 → (((h 3 ((FX5_firstPart_n a0 (h 28 (a0.toNatClampNeg)) h).toNatClampNeg)) = 7 → ((PX3_goUnless_oc1 (FX3_slotOf a0 (h 3 (((FX5_firstPart_n a0 (h 28 (a0.toNatClampNeg)) h) + 1).toNatClampNeg))) (h 3 (((FX5_firstPart_n a0 (h 28 (a0.toNatClampNeg)) h) + 2).toNatClampNeg)) h) ∧ (True))) ∧ (¬ (h 3 ((FX5_firstPart_n a0 (h 28 (a0.toNatClampNeg)) h).toNatClampNeg)) = 7 → (((h 3 ((FX5_firstPart_n a0 (h 28 (a0.toNatClampNeg)) h).toNatClampNeg)) = 8 → ((PX3_makeRow_oc1 (FX3_slotOf a0 (h 3 (((FX5_firstPart_n a0 (h 28 (a0.toNatClampNeg)) h) + 1).toNatClampNeg))) (FX3_slotOf a0 (h 3 (((FX5_firstPart_n a0 (h 28 (a0.toNatClampNeg)) h) + 2).toNatClampNeg))) h) ∧ (True))) ∧ (¬ (h 3 ((FX5_firstPart_n a0 (h 28 (a0.toNatClampNeg)) h).toNatClampNeg)) = 8 → (((h 3 ((FX5_firstPart_n a0 (h 28 (a0.toNatClampNeg)) h).toNatClampNeg)) = 9 → ((PX3_readRow_oc1 (FX3_slotOf a0 (h 3 (((FX5_firstPart_n a0 (h 28 (a0.toNatClampNeg)) h) + 1).toNatClampNeg))) (FX3_slotOf a0 (h 3 (((FX5_firstPart_n a0 (h 28 (a0.toNatClampNeg)) h) + 2).toNatClampNeg))) (FX3_slotOf a0 (h 3 (((FX5_firstPart_n a0 (h 28 (a0.toNatClampNeg)) h) + 3).toNatClampNeg))) h) ∧ (True))) ∧ (¬ (h 3 ((FX5_firstPart_n a0 (h 28 (a0.toNatClampNeg)) h).toNatClampNeg)) = 9 → (((h 3 ((FX5_firstPart_n a0 (h 28 (a0.toNatClampNeg)) h).toNatClampNeg)) = 10 → ((PX3_writeRow_oc1 (FX3_slotOf a0 (h 3 (((FX5_firstPart_n a0 (h 28 (a0.toNatClampNeg)) h) + 1).toNatClampNeg))) (FX3_slotOf a0 (h 3 (((FX5_firstPart_n a0 (h 28 (a0.toNatClampNeg)) h) + 2).toNatClampNeg))) (FX3_slotOf a0 (h 3 (((FX5_firstPart_n a0 (h 28 (a0.toNatClampNeg)) h) + 3).toNatClampNeg))) h) ∧ (True))) ∧ (¬ (h 3 ((FX5_firstPart_n a0 (h 28 (a0.toNatClampNeg)) h).toNatClampNeg)) = 10 → (((h 3 ((FX5_firstPart_n a0 (h 28 (a0.toNatClampNeg)) h).toNatClampNeg)) = 11 → ((((h 3 (((FX5_firstPart_n a0 (h 28 (a0.toNatClampNeg)) h) + 2).toNatClampNeg)) &&& 1) = 0 → (PX3_perform_oc1_288  0 (FX3_slotOf a0 (h 3 (((FX5_firstPart_n a0 (h 28 (a0.toNatClampNeg)) h) + 1).toNatClampNeg))) h)) ∧ (¬ ((h 3 (((FX5_firstPart_n a0 (h 28 (a0.toNatClampNeg)) h) + 2).toNatClampNeg)) &&& 1) = 0 → (PX3_perform_oc1_288  1 (FX3_slotOf a0 (h 3 (((FX5_firstPart_n a0 (h 28 (a0.toNatClampNeg)) h) + 1).toNatClampNeg))) h)))) ∧ (¬ (h 3 ((FX5_firstPart_n a0 (h 28 (a0.toNatClampNeg)) h).toNatClampNeg)) = 11 → (((h 3 ((FX5_firstPart_n a0 (h 28 (a0.toNatClampNeg)) h).toNatClampNeg)) = 12 → ((PX3_takeLock_oc1 a0 (FX3_slotOf a0 (h 3 (((FX5_firstPart_n a0 (h 28 (a0.toNatClampNeg)) h) + 1).toNatClampNeg))) h) ∧ (True))) ∧ (¬ (h 3 ((FX5_firstPart_n a0 (h 28 (a0.toNatClampNeg)) h).toNatClampNeg)) = 12 → (((h 3 ((FX5_firstPart_n a0 (h 28 (a0.toNatClampNeg)) h).toNatClampNeg)) = 13 → ((PX3_leaveLock_oc1 a0 (FX3_slotOf a0 (h 3 (((FX5_firstPart_n a0 (h 28 (a0.toNatClampNeg)) h) + 1).toNatClampNeg))) h) ∧ (True))) ∧ (¬ (h 3 ((FX5_firstPart_n a0 (h 28 (a0.toNatClampNeg)) h).toNatClampNeg)) = 13 → (((h 3 ((FX5_firstPart_n a0 (h 28 (a0.toNatClampNeg)) h).toNatClampNeg)) = 14 → ((PX3_lieDown_oc1 a0 (FX3_slotOf a0 (h 3 (((FX5_firstPart_n a0 (h 28 (a0.toNatClampNeg)) h) + 1).toNatClampNeg))) h) ∧ (True))) ∧ (¬ (h 3 ((FX5_firstPart_n a0 (h 28 (a0.toNatClampNeg)) h).toNatClampNeg)) = 14 → (((h 3 ((FX5_firstPart_n a0 (h 28 (a0.toNatClampNeg)) h).toNatClampNeg)) = 15 → ((PX3_wakeSleepers_oc1 a0 (FX3_slotOf a0 (h 3 (((FX5_firstPart_n a0 (h 28 (a0.toNatClampNeg)) h) + 1).toNatClampNeg))) h) ∧ (True))) ∧ (¬ (h 3 ((FX5_firstPart_n a0 (h 28 (a0.toNatClampNeg)) h).toNatClampNeg)) = 15 → (((h 3 ((FX5_firstPart_n a0 (h 28 (a0.toNatClampNeg)) h).toNatClampNeg)) = 16 → ((PX3_takeInput_oc1 (FX3_slotOf a0 (h 3 (((FX5_firstPart_n a0 (h 28 (a0.toNatClampNeg)) h) + 1).toNatClampNeg))) h) ∧ (True))) ∧ (¬ (h 3 ((FX5_firstPart_n a0 (h 28 (a0.toNatClampNeg)) h).toNatClampNeg)) = 16 → (((h 3 ((FX5_firstPart_n a0 (h 28 (a0.toNatClampNeg)) h).toNatClampNeg)) = 17 → ((PJ9_floorMod_7cf53 (h 3 (((FX5_firstPart_n a0 (h 28 (a0.toNatClampNeg)) h) + 1).toNatClampNeg)) 4) ∧ ((PX3_startThread_oc1 (FJ9_floorMod_7cf53 (h 3 (((FX5_firstPart_n a0 (h 28 (a0.toNatClampNeg)) h) + 1).toNatClampNeg)) 4) h) ∧ (True)))) ∧ (¬ (h 3 ((FX5_firstPart_n a0 (h 28 (a0.toNatClampNeg)) h).toNatClampNeg)) = 17 → (((h 3 ((FX5_firstPart_n a0 (h 28 (a0.toNatClampNeg)) h).toNatClampNeg)) = 18 → ((PJ9_floorMod_7cf53 (h 3 (((FX5_firstPart_n a0 (h 28 (a0.toNatClampNeg)) h) + 2).toNatClampNeg)) 10) ∧ (True))) ∧ (¬ (h 3 ((FX5_firstPart_n a0 (h 28 (a0.toNatClampNeg)) h).toNatClampNeg)) = 18 → ((PX3_goTo_oc1 24 h) ∧ (True))))))))))))))))))))))))))))))))))))))))))))))))
set_option maxRecDepth 100000 in
set_option maxHeartbeats 4000000 in
theorem tX3_perform_oc1 {X : fj_X} {Y : fj_Y} {l0 : Launch} {ad : Nat → Nat} {n : Nat} {S : ph_S} (W : WS 1 n S) (C : FC X Y l0 cX3_perform 8 RX3 ({ frames := 2, cells := 0, slots := 0, locals := 49 } : Room) 0 0 (some .int)) (a0 : Int32) (h : ph_H) (hP : PX3_perform_oc1 a0 h) (hR : RETi X Y ad n S cX3_perform (FX3_perform_oc1 a0 h)) : FJ X Y ad n S h 0 [(0, .ref (ad 25)), (1, .int a0)] [] := by
  unfold PX3_perform_oc1 at hP
  unfold FX3_perform_oc1 at hR
  refine j_aload_n C dX3_perform_0 rfl rfl ?_
  refine gCRX3_39 C dX3_perform_1 (W.lt 25 (by decide)) (sh_25 W) rfl ?_
  refine j_iload_n C dX3_perform_4 rfl rfl ?_
  refine j_aload_n C dX3_perform_5 rfl rfl ?_
  refine gCRX3_18 C dX3_perform_6 (W.lt 25 (by decide)) (sh_25 W) rfl ?_
  refine j_iload_n C dX3_perform_9 rfl rfl ?_
  obtain ⟨p6, hP⟩ := hP
  refine j_iald (k := 28) (v := (h 28 (a0.toNatClampNeg))) C dX3_perform_10 (W.lt 28 (by decide)) (sh_28 W) p6 rfl ?_
  obtain ⟨p8, hP⟩ := hP
  refine j_callV C (MX5_firstPart_n W a0 (h 28 (a0.toNatClampNeg)) h p8) dX3_perform_11 (CKX5_firstPart (by decide)) ⟨rfl, rfl⟩ lk_RX3_78 in_X5_firstPart se_X5_firstPart (W.lt 1 (by decide)) (sh_1 W) rfl rfl (Nat.le_of_ble_eq_true rfl) ?_
  intro r S' h' hq
  obtain ⟨e1, hh, e3⟩ := hq
  rw [e1, hh, e3]
  refine j_istore_n C dX3_perform_14 rfl (by decide) rfl ?_
  refine j_aload_n C dX3_perform_15 rfl rfl ?_
  refine gCRX3_39 C dX3_perform_16 (W.lt 25 (by decide)) (sh_25 W) rfl ?_
  refine gCRX3_82 C dX3_perform_19 (W.lt 1 (by decide)) (sh_1 W) rfl ?_
  refine j_iload_n C dX3_perform_22 rfl rfl ?_
  refine j_iconst (v := 1) C dX3_perform_23 (by decide) ?_
  refine j_iadd C dX3_perform_24 ?_
  obtain ⟨p20, hP⟩ := hP
  refine j_iald (k := 3) (v := (h 3 (((FX5_firstPart_n a0 (h 28 (a0.toNatClampNeg)) h) + 1).toNatClampNeg))) C dX3_perform_25 (W.lt 3 (by decide)) (sh_3 W) p20 rfl ?_
  refine j_istore_n C dX3_perform_26 rfl (by decide) rfl ?_
  refine j_aload_n C dX3_perform_27 rfl rfl ?_
  refine gCRX3_39 C dX3_perform_28 (W.lt 25 (by decide)) (sh_25 W) rfl ?_
  refine gCRX3_82 C dX3_perform_31 (W.lt 1 (by decide)) (sh_1 W) rfl ?_
  refine j_iload_n C dX3_perform_34 rfl rfl ?_
  refine j_iconst (v := 2) C dX3_perform_35 (by decide) ?_
  refine j_iadd C dX3_perform_36 ?_
  obtain ⟨p29, hP⟩ := hP
  refine j_iald (k := 3) (v := (h 3 (((FX5_firstPart_n a0 (h 28 (a0.toNatClampNeg)) h) + 2).toNatClampNeg))) C dX3_perform_37 (W.lt 3 (by decide)) (sh_3 W) p29 rfl ?_
  refine j_istore C dX3_perform_38 (by decide) rfl ?_
  refine j_iload_n C dX3_perform_40 rfl rfl ?_
  refine j_iload_n C dX3_perform_41 rfl rfl ?_
  obtain ⟨p34, hP⟩ := hP
  refine j_callS C (MX3_slotOf W a0 (h 3 (((FX5_firstPart_n a0 (h 28 (a0.toNatClampNeg)) h) + 1).toNatClampNeg)) h p34) dX3_perform_42 (CKX3_slotOf (by decide)) ⟨rfl, rfl⟩ lk_RX3_85 st_X3_slotOf rfl (Nat.le_of_ble_eq_true rfl) ?_
  intro r S' h' hq
  obtain ⟨e1, hh, e3⟩ := hq
  rw [e1, hh, e3]
  refine j_istore C dX3_perform_45 (by decide) rfl ?_
  refine j_iload_n C dX3_perform_47 rfl rfl ?_
  refine j_iload C dX3_perform_48 rfl ?_
  obtain ⟨p42, hP⟩ := hP
  refine j_callS C (MX3_slotOf W a0 (h 3 (((FX5_firstPart_n a0 (h 28 (a0.toNatClampNeg)) h) + 2).toNatClampNeg)) h p42) dX3_perform_50 (CKX3_slotOf (by decide)) ⟨rfl, rfl⟩ lk_RX3_85 st_X3_slotOf rfl (Nat.le_of_ble_eq_true rfl) ?_
  intro r S' h' hq
  obtain ⟨e1, hh, e3⟩ := hq
  rw [e1, hh, e3]
  refine j_istore C dX3_perform_53 (by decide) rfl ?_
  refine j_iload_n C dX3_perform_55 rfl rfl ?_
  refine j_aload_n C dX3_perform_56 rfl rfl ?_
  refine gCRX3_39 C dX3_perform_57 (W.lt 25 (by decide)) (sh_25 W) rfl ?_
  refine gCRX3_82 C dX3_perform_60 (W.lt 1 (by decide)) (sh_1 W) rfl ?_
  refine j_iload_n C dX3_perform_63 rfl rfl ?_
  refine j_iconst (v := 3) C dX3_perform_64 (by decide) ?_
  refine j_iadd C dX3_perform_65 ?_
  obtain ⟨p55, hP⟩ := hP
  refine j_iald (k := 3) (v := (h 3 (((FX5_firstPart_n a0 (h 28 (a0.toNatClampNeg)) h) + 3).toNatClampNeg))) C dX3_perform_66 (W.lt 3 (by decide)) (sh_3 W) p55 rfl ?_
  obtain ⟨p57, hP⟩ := hP
  refine j_callS C (MX3_slotOf W a0 (h 3 (((FX5_firstPart_n a0 (h 28 (a0.toNatClampNeg)) h) + 3).toNatClampNeg)) h p57) dX3_perform_67 (CKX3_slotOf (by decide)) ⟨rfl, rfl⟩ lk_RX3_85 st_X3_slotOf rfl (Nat.le_of_ble_eq_true rfl) ?_
  intro r S' h' hq
  obtain ⟨e1, hh, e3⟩ := hq
  rw [e1, hh, e3]
  refine j_istore C dX3_perform_70 (by decide) rfl ?_
  refine j_aload_n C dX3_perform_72 rfl rfl ?_
  refine gCRX3_39 C dX3_perform_73 (W.lt 25 (by decide)) (sh_25 W) rfl ?_
  refine gCRX3_82 C dX3_perform_76 (W.lt 1 (by decide)) (sh_1 W) rfl ?_
  refine j_iload_n C dX3_perform_79 rfl rfl ?_
  obtain ⟨p67, hP⟩ := hP
  refine j_iald (k := 3) (v := (h 3 ((FX5_firstPart_n a0 (h 28 (a0.toNatClampNeg)) h).toNatClampNeg))) C dX3_perform_80 (W.lt 3 (by decide)) (sh_3 W) p67 rfl ?_
  rcases Classical.em ((h 3 ((FX5_firstPart_n a0 (h 28 (a0.toNatClampNeg)) h).toNatClampNeg)) = 0) with c0 | c0
  · have hP := hP.1 c0
    rw [if_pos c0] at hR
    refine j_tableIn (tgt := 172) (off := 91) C dX3_perform_81 (by rw [c0]; decide) (by rw [c0]; decide) (by rw [c0]; decide) (by decide) ?_
    refine j_aload_n C dX3_perform_172 rfl rfl ?_
    refine j_iload C dX3_perform_173 rfl ?_
    refine j_iconst (v := 0) C dX3_perform_175 (by decide) ?_
    refine j_iload C dX3_perform_176 rfl ?_
    obtain ⟨p4, hP⟩ := hP
    refine j_callV C (MX3_hold_oc1 W (FX3_slotOf a0 (h 3 (((FX5_firstPart_n a0 (h 28 (a0.toNatClampNeg)) h) + 1).toNatClampNeg))) 0 (h 3 (((FX5_firstPart_n a0 (h 28 (a0.toNatClampNeg)) h) + 2).toNatClampNeg)) h p4) dX3_perform_178 (CKX3_hold (by decide)) ⟨rfl, rfl⟩ lk_RX3_135 in_X3_hold se_X3_hold (W.lt 25 (by decide)) (sh_25 W) rfl rfl (Nat.le_of_ble_eq_true rfl) ?_
    intro r S' h' hq
    obtain ⟨e1, e2, e3⟩ := hq
    rw [e1, e2, e3]
    exact RETi_u hR _ _ dX3_perform_181
  have hP := hP.2 c0
  rw [if_neg c0] at hR
  rcases Classical.em ((h 3 ((FX5_firstPart_n a0 (h 28 (a0.toNatClampNeg)) h).toNatClampNeg)) = 1) with c1 | c1
  · have hP := hP.1 c1
    rw [if_pos c1] at hR
    refine j_tableIn (tgt := 182) (off := 101) C dX3_perform_81 (by rw [c1]; decide) (by rw [c1]; decide) (by rw [c1]; decide) (by decide) ?_
    refine j_aload_n C dX3_perform_182 rfl rfl ?_
    refine j_iload C dX3_perform_183 rfl ?_
    refine j_iload C dX3_perform_185 rfl ?_
    refine j_bipush (v := 12) C dX3_perform_187 (by decide) ?_
    obtain ⟨p4, hP⟩ := hP
    refine j_callS C (MJ9_floorMod_7cf53 W (h 3 (((FX5_firstPart_n a0 (h 28 (a0.toNatClampNeg)) h) + 2).toNatClampNeg)) 12 h p4) dX3_perform_189 (CKJ9_floorMod_7cf53 (by decide)) ⟨rfl, rfl⟩ lk_RX3_139 st_J9_floorMod_7cf53 rfl (Nat.le_of_ble_eq_true rfl) ?_
    intro r S' h' hq
    obtain ⟨e1, hh, e3⟩ := hq
    rw [e1, hh, e3]
    obtain ⟨p9, hP⟩ := hP
    refine j_callV C (MX3_getCell_oc1 W (FX3_slotOf a0 (h 3 (((FX5_firstPart_n a0 (h 28 (a0.toNatClampNeg)) h) + 1).toNatClampNeg))) (FJ9_floorMod_7cf53 (h 3 (((FX5_firstPart_n a0 (h 28 (a0.toNatClampNeg)) h) + 2).toNatClampNeg)) 12) h p9) dX3_perform_192 (CKX3_getCell (by decide)) ⟨rfl, rfl⟩ lk_RX3_144 in_X3_getCell se_X3_getCell (W.lt 25 (by decide)) (sh_25 W) rfl rfl (Nat.le_of_ble_eq_true rfl) ?_
    intro r S' h' hq
    obtain ⟨e1, e2, e3⟩ := hq
    rw [e1, e2, e3]
    exact RETi_u hR _ _ dX3_perform_195
  have hP := hP.2 c1
  rw [if_neg c1] at hR
  rcases Classical.em ((h 3 ((FX5_firstPart_n a0 (h 28 (a0.toNatClampNeg)) h).toNatClampNeg)) = 2) with c2 | c2
  · have hP := hP.1 c2
    rw [if_pos c2] at hR
    refine j_tableIn (tgt := 196) (off := 115) C dX3_perform_81 (by rw [c2]; decide) (by rw [c2]; decide) (by rw [c2]; decide) (by decide) ?_
    refine j_aload_n C dX3_perform_196 rfl rfl ?_
    refine j_iload_n C dX3_perform_197 rfl rfl ?_
    refine j_bipush (v := 12) C dX3_perform_198 (by decide) ?_
    obtain ⟨p3, hP⟩ := hP
    refine j_callS C (MJ9_floorMod_7cf53 W (h 3 (((FX5_firstPart_n a0 (h 28 (a0.toNatClampNeg)) h) + 1).toNatClampNeg)) 12 h p3) dX3_perform_200 (CKJ9_floorMod_7cf53 (by decide)) ⟨rfl, rfl⟩ lk_RX3_139 st_J9_floorMod_7cf53 rfl (Nat.le_of_ble_eq_true rfl) ?_
    intro r S' h' hq
    obtain ⟨e1, hh, e3⟩ := hq
    rw [e1, hh, e3]
    refine j_iload C dX3_perform_203 rfl ?_
    obtain ⟨p9, hP⟩ := hP
    refine j_callV C (MX3_putCell_oc1 W (FJ9_floorMod_7cf53 (h 3 (((FX5_firstPart_n a0 (h 28 (a0.toNatClampNeg)) h) + 1).toNatClampNeg)) 12) (FX3_slotOf a0 (h 3 (((FX5_firstPart_n a0 (h 28 (a0.toNatClampNeg)) h) + 2).toNatClampNeg))) h p9) dX3_perform_205 (CKX3_putCell (by decide)) ⟨rfl, rfl⟩ lk_RX3_147 in_X3_putCell se_X3_putCell (W.lt 25 (by decide)) (sh_25 W) rfl rfl (Nat.le_of_ble_eq_true rfl) ?_
    intro r S' h' hq
    obtain ⟨e1, e2, e3⟩ := hq
    rw [e1, e2, e3]
    exact RETi_u hR _ _ dX3_perform_208
  have hP := hP.2 c2
  rw [if_neg c2] at hR
  rcases Classical.em ((h 3 ((FX5_firstPart_n a0 (h 28 (a0.toNatClampNeg)) h).toNatClampNeg)) = 3) with c3 | c3
  · have hP := hP.1 c3
    rw [if_pos c3] at hR
    refine j_tableIn (tgt := 209) (off := 128) C dX3_perform_81 (by rw [c3]; decide) (by rw [c3]; decide) (by rw [c3]; decide) (by decide) ?_
    refine j_aload_n C dX3_perform_209 rfl rfl ?_
    refine j_aload_n C dX3_perform_210 rfl rfl ?_
    refine gCRX3_39 C dX3_perform_211 (W.lt 25 (by decide)) (sh_25 W) rfl ?_
    refine gCRX3_82 C dX3_perform_214 (W.lt 1 (by decide)) (sh_1 W) rfl ?_
    refine j_iload_n C dX3_perform_217 rfl rfl ?_
    obtain ⟨p5, hP⟩ := hP
    refine j_iald (k := 3) (v := (h 3 ((FX5_firstPart_n a0 (h 28 (a0.toNatClampNeg)) h).toNatClampNeg))) C dX3_perform_218 (W.lt 3 (by decide)) (sh_3 W) p5 rfl ?_
    refine j_iload C dX3_perform_219 rfl ?_
    refine j_iload C dX3_perform_221 rfl ?_
    obtain ⟨p9, hP⟩ := hP
    refine j_callV C (MX3_reckon_oc1 W (h 3 ((FX5_firstPart_n a0 (h 28 (a0.toNatClampNeg)) h).toNatClampNeg)) (FX3_slotOf a0 (h 3 (((FX5_firstPart_n a0 (h 28 (a0.toNatClampNeg)) h) + 1).toNatClampNeg))) (FX3_slotOf a0 (h 3 (((FX5_firstPart_n a0 (h 28 (a0.toNatClampNeg)) h) + 2).toNatClampNeg))) h p9) dX3_perform_223 (CKX3_reckon (by decide)) ⟨rfl, rfl⟩ lk_RX3_150 in_X3_reckon se_X3_reckon (W.lt 25 (by decide)) (sh_25 W) rfl rfl (Nat.le_of_ble_eq_true rfl) ?_
    intro r S' h' hq
    obtain ⟨e1, e2, e3⟩ := hq
    rw [e1, e2, e3]
    exact RETi_u hR _ _ dX3_perform_226
  have hP := hP.2 c3
  rw [if_neg c3] at hR
  rcases Classical.em ((h 3 ((FX5_firstPart_n a0 (h 28 (a0.toNatClampNeg)) h).toNatClampNeg)) = 4) with c4 | c4
  · have hP := hP.1 c4
    rw [if_pos c4] at hR
    refine j_tableIn (tgt := 209) (off := 128) C dX3_perform_81 (by rw [c4]; decide) (by rw [c4]; decide) (by rw [c4]; decide) (by decide) ?_
    refine j_aload_n C dX3_perform_209 rfl rfl ?_
    refine j_aload_n C dX3_perform_210 rfl rfl ?_
    refine gCRX3_39 C dX3_perform_211 (W.lt 25 (by decide)) (sh_25 W) rfl ?_
    refine gCRX3_82 C dX3_perform_214 (W.lt 1 (by decide)) (sh_1 W) rfl ?_
    refine j_iload_n C dX3_perform_217 rfl rfl ?_
    obtain ⟨p5, hP⟩ := hP
    refine j_iald (k := 3) (v := (h 3 ((FX5_firstPart_n a0 (h 28 (a0.toNatClampNeg)) h).toNatClampNeg))) C dX3_perform_218 (W.lt 3 (by decide)) (sh_3 W) p5 rfl ?_
    refine j_iload C dX3_perform_219 rfl ?_
    refine j_iload C dX3_perform_221 rfl ?_
    obtain ⟨p9, hP⟩ := hP
    refine j_callV C (MX3_reckon_oc1 W (h 3 ((FX5_firstPart_n a0 (h 28 (a0.toNatClampNeg)) h).toNatClampNeg)) (FX3_slotOf a0 (h 3 (((FX5_firstPart_n a0 (h 28 (a0.toNatClampNeg)) h) + 1).toNatClampNeg))) (FX3_slotOf a0 (h 3 (((FX5_firstPart_n a0 (h 28 (a0.toNatClampNeg)) h) + 2).toNatClampNeg))) h p9) dX3_perform_223 (CKX3_reckon (by decide)) ⟨rfl, rfl⟩ lk_RX3_150 in_X3_reckon se_X3_reckon (W.lt 25 (by decide)) (sh_25 W) rfl rfl (Nat.le_of_ble_eq_true rfl) ?_
    intro r S' h' hq
    obtain ⟨e1, e2, e3⟩ := hq
    rw [e1, e2, e3]
    exact RETi_u hR _ _ dX3_perform_226
  have hP := hP.2 c4
  rw [if_neg c4] at hR
  rcases Classical.em ((h 3 ((FX5_firstPart_n a0 (h 28 (a0.toNatClampNeg)) h).toNatClampNeg)) = 5) with c5 | c5
  · have hP := hP.1 c5
    rw [if_pos c5] at hR
    refine j_tableIn (tgt := 209) (off := 128) C dX3_perform_81 (by rw [c5]; decide) (by rw [c5]; decide) (by rw [c5]; decide) (by decide) ?_
    refine j_aload_n C dX3_perform_209 rfl rfl ?_
    refine j_aload_n C dX3_perform_210 rfl rfl ?_
    refine gCRX3_39 C dX3_perform_211 (W.lt 25 (by decide)) (sh_25 W) rfl ?_
    refine gCRX3_82 C dX3_perform_214 (W.lt 1 (by decide)) (sh_1 W) rfl ?_
    refine j_iload_n C dX3_perform_217 rfl rfl ?_
    obtain ⟨p5, hP⟩ := hP
    refine j_iald (k := 3) (v := (h 3 ((FX5_firstPart_n a0 (h 28 (a0.toNatClampNeg)) h).toNatClampNeg))) C dX3_perform_218 (W.lt 3 (by decide)) (sh_3 W) p5 rfl ?_
    refine j_iload C dX3_perform_219 rfl ?_
    refine j_iload C dX3_perform_221 rfl ?_
    obtain ⟨p9, hP⟩ := hP
    refine j_callV C (MX3_reckon_oc1 W (h 3 ((FX5_firstPart_n a0 (h 28 (a0.toNatClampNeg)) h).toNatClampNeg)) (FX3_slotOf a0 (h 3 (((FX5_firstPart_n a0 (h 28 (a0.toNatClampNeg)) h) + 1).toNatClampNeg))) (FX3_slotOf a0 (h 3 (((FX5_firstPart_n a0 (h 28 (a0.toNatClampNeg)) h) + 2).toNatClampNeg))) h p9) dX3_perform_223 (CKX3_reckon (by decide)) ⟨rfl, rfl⟩ lk_RX3_150 in_X3_reckon se_X3_reckon (W.lt 25 (by decide)) (sh_25 W) rfl rfl (Nat.le_of_ble_eq_true rfl) ?_
    intro r S' h' hq
    obtain ⟨e1, e2, e3⟩ := hq
    rw [e1, e2, e3]
    exact RETi_u hR _ _ dX3_perform_226
  have hP := hP.2 c5
  rw [if_neg c5] at hR
  rcases Classical.em ((h 3 ((FX5_firstPart_n a0 (h 28 (a0.toNatClampNeg)) h).toNatClampNeg)) = 6) with c6 | c6
  · have hP := hP.1 c6
    rw [if_pos c6] at hR
    refine j_tableIn (tgt := 227) (off := 146) C dX3_perform_81 (by rw [c6]; decide) (by rw [c6]; decide) (by rw [c6]; decide) (by decide) ?_
    refine j_aload_n C dX3_perform_227 rfl rfl ?_
    refine j_iload_n C dX3_perform_228 rfl rfl ?_
    obtain ⟨p2, hP⟩ := hP
    refine j_callV C (MX3_goTo_oc1 W (h 3 (((FX5_firstPart_n a0 (h 28 (a0.toNatClampNeg)) h) + 1).toNatClampNeg)) h p2) dX3_perform_229 (CKX3_goTo (by decide)) ⟨rfl, rfl⟩ lk_RX3_153 in_X3_goTo se_X3_goTo (W.lt 25 (by decide)) (sh_25 W) rfl rfl (Nat.le_of_ble_eq_true rfl) ?_
    intro r S' h' hq
    obtain ⟨e1, e2, e3⟩ := hq
    rw [e1, e2, e3]
    exact RETi_u hR _ _ dX3_perform_232
  have hP := hP.2 c6
  rw [if_neg c6] at hR
  rcases Classical.em ((h 3 ((FX5_firstPart_n a0 (h 28 (a0.toNatClampNeg)) h).toNatClampNeg)) = 7) with c7 | c7
  · have hP := hP.1 c7
    rw [if_pos c7] at hR
    refine j_tableIn (tgt := 233) (off := 152) C dX3_perform_81 (by rw [c7]; decide) (by rw [c7]; decide) (by rw [c7]; decide) (by decide) ?_
    refine j_aload_n C dX3_perform_233 rfl rfl ?_
    refine j_iload C dX3_perform_234 rfl ?_
    refine j_iload C dX3_perform_236 rfl ?_
    obtain ⟨p3, hP⟩ := hP
    refine j_callV C (MX3_goUnless_oc1 W (FX3_slotOf a0 (h 3 (((FX5_firstPart_n a0 (h 28 (a0.toNatClampNeg)) h) + 1).toNatClampNeg))) (h 3 (((FX5_firstPart_n a0 (h 28 (a0.toNatClampNeg)) h) + 2).toNatClampNeg)) h p3) dX3_perform_238 (CKX3_goUnless (by decide)) ⟨rfl, rfl⟩ lk_RX3_156 in_X3_goUnless se_X3_goUnless (W.lt 25 (by decide)) (sh_25 W) rfl rfl (Nat.le_of_ble_eq_true rfl) ?_
    intro r S' h' hq
    obtain ⟨e1, e2, e3⟩ := hq
    rw [e1, e2, e3]
    exact RETi_u hR _ _ dX3_perform_241
  have hP := hP.2 c7
  rw [if_neg c7] at hR
  rcases Classical.em ((h 3 ((FX5_firstPart_n a0 (h 28 (a0.toNatClampNeg)) h).toNatClampNeg)) = 8) with c8 | c8
  · have hP := hP.1 c8
    rw [if_pos c8] at hR
    refine j_tableIn (tgt := 242) (off := 161) C dX3_perform_81 (by rw [c8]; decide) (by rw [c8]; decide) (by rw [c8]; decide) (by decide) ?_
    refine j_aload_n C dX3_perform_242 rfl rfl ?_
    refine j_iload C dX3_perform_243 rfl ?_
    refine j_iload C dX3_perform_245 rfl ?_
    obtain ⟨p3, hP⟩ := hP
    refine j_callV C (MX3_makeRow_oc1 W (FX3_slotOf a0 (h 3 (((FX5_firstPart_n a0 (h 28 (a0.toNatClampNeg)) h) + 1).toNatClampNeg))) (FX3_slotOf a0 (h 3 (((FX5_firstPart_n a0 (h 28 (a0.toNatClampNeg)) h) + 2).toNatClampNeg))) h p3) dX3_perform_247 (CKX3_makeRow (by decide)) ⟨rfl, rfl⟩ lk_RX3_159 in_X3_makeRow se_X3_makeRow (W.lt 25 (by decide)) (sh_25 W) rfl rfl (Nat.le_of_ble_eq_true rfl) ?_
    intro r S' h' hq
    obtain ⟨e1, e2, e3⟩ := hq
    rw [e1, e2, e3]
    exact RETi_u hR _ _ dX3_perform_250
  have hP := hP.2 c8
  rw [if_neg c8] at hR
  rcases Classical.em ((h 3 ((FX5_firstPart_n a0 (h 28 (a0.toNatClampNeg)) h).toNatClampNeg)) = 9) with c9 | c9
  · have hP := hP.1 c9
    rw [if_pos c9] at hR
    refine j_tableIn (tgt := 251) (off := 170) C dX3_perform_81 (by rw [c9]; decide) (by rw [c9]; decide) (by rw [c9]; decide) (by decide) ?_
    refine j_aload_n C dX3_perform_251 rfl rfl ?_
    refine j_iload C dX3_perform_252 rfl ?_
    refine j_iload C dX3_perform_254 rfl ?_
    refine j_iload C dX3_perform_256 rfl ?_
    obtain ⟨p4, hP⟩ := hP
    refine j_callV C (MX3_readRow_oc1 W (FX3_slotOf a0 (h 3 (((FX5_firstPart_n a0 (h 28 (a0.toNatClampNeg)) h) + 1).toNatClampNeg))) (FX3_slotOf a0 (h 3 (((FX5_firstPart_n a0 (h 28 (a0.toNatClampNeg)) h) + 2).toNatClampNeg))) (FX3_slotOf a0 (h 3 (((FX5_firstPart_n a0 (h 28 (a0.toNatClampNeg)) h) + 3).toNatClampNeg))) h p4) dX3_perform_258 (CKX3_readRow (by decide)) ⟨rfl, rfl⟩ lk_RX3_162 in_X3_readRow se_X3_readRow (W.lt 25 (by decide)) (sh_25 W) rfl rfl (Nat.le_of_ble_eq_true rfl) ?_
    intro r S' h' hq
    obtain ⟨e1, e2, e3⟩ := hq
    rw [e1, e2, e3]
    exact RETi_u hR _ _ dX3_perform_261
  have hP := hP.2 c9
  rw [if_neg c9] at hR
  rcases Classical.em ((h 3 ((FX5_firstPart_n a0 (h 28 (a0.toNatClampNeg)) h).toNatClampNeg)) = 10) with c10 | c10
  · have hP := hP.1 c10
    rw [if_pos c10] at hR
    refine j_tableIn (tgt := 262) (off := 181) C dX3_perform_81 (by rw [c10]; decide) (by rw [c10]; decide) (by rw [c10]; decide) (by decide) ?_
    refine j_aload_n C dX3_perform_262 rfl rfl ?_
    refine j_iload C dX3_perform_263 rfl ?_
    refine j_iload C dX3_perform_265 rfl ?_
    refine j_iload C dX3_perform_267 rfl ?_
    obtain ⟨p4, hP⟩ := hP
    refine j_callV C (MX3_writeRow_oc1 W (FX3_slotOf a0 (h 3 (((FX5_firstPart_n a0 (h 28 (a0.toNatClampNeg)) h) + 1).toNatClampNeg))) (FX3_slotOf a0 (h 3 (((FX5_firstPart_n a0 (h 28 (a0.toNatClampNeg)) h) + 2).toNatClampNeg))) (FX3_slotOf a0 (h 3 (((FX5_firstPart_n a0 (h 28 (a0.toNatClampNeg)) h) + 3).toNatClampNeg))) h p4) dX3_perform_269 (CKX3_writeRow (by decide)) ⟨rfl, rfl⟩ lk_RX3_165 in_X3_writeRow se_X3_writeRow (W.lt 25 (by decide)) (sh_25 W) rfl rfl (Nat.le_of_ble_eq_true rfl) ?_
    intro r S' h' hq
    obtain ⟨e1, e2, e3⟩ := hq
    rw [e1, e2, e3]
    exact RETi_u hR _ _ dX3_perform_272
  have hP := hP.2 c10
  rw [if_neg c10] at hR
  rcases Classical.em ((h 3 ((FX5_firstPart_n a0 (h 28 (a0.toNatClampNeg)) h).toNatClampNeg)) = 11) with c11 | c11
  · have hP := hP.1 c11
    rw [if_pos c11] at hR
    refine j_tableIn (tgt := 273) (off := 192) C dX3_perform_81 (by rw [c11]; decide) (by rw [c11]; decide) (by rw [c11]; decide) (by decide) ?_
    refine j_aload_n C dX3_perform_273 rfl rfl ?_
    refine j_iload C dX3_perform_274 rfl ?_
    refine j_iload C dX3_perform_276 rfl ?_
    refine j_iconst (v := 1) C dX3_perform_278 (by decide) ?_
    refine j_iand C dX3_perform_279 ?_
    refine j_if_eq (tgt := 287) C dX3_perform_280 (by decide) (fun c12 => ?_) (fun c12 => ?_)
    · have hP := hP.1 c12
      rw [if_pos c12] at hR
      refine j_iconst (v := 0) C dX3_perform_287 (by decide) ?_
      exact j_vl (tX3_perform_oc1_288 W C  0 (FX3_slotOf a0 (h 3 (((FX5_firstPart_n a0 (h 28 (a0.toNatClampNeg)) h) + 1).toNatClampNeg))) h hP hR) trivial
    · have hP := hP.2 c12
      rw [if_neg c12] at hR
      refine j_iconst (v := 1) C dX3_perform_283 (by decide) ?_
      refine j_goto (tgt := 288) C dX3_perform_284 (by decide) ?_
      exact j_vl (tX3_perform_oc1_288 W C  1 (FX3_slotOf a0 (h 3 (((FX5_firstPart_n a0 (h 28 (a0.toNatClampNeg)) h) + 1).toNatClampNeg))) h hP hR) trivial
  have hP := hP.2 c11
  rw [if_neg c11] at hR
  rcases Classical.em ((h 3 ((FX5_firstPart_n a0 (h 28 (a0.toNatClampNeg)) h).toNatClampNeg)) = 12) with c12 | c12
  · have hP := hP.1 c12
    rw [if_pos c12] at hR
    refine j_tableIn (tgt := 292) (off := 211) C dX3_perform_81 (by rw [c12]; decide) (by rw [c12]; decide) (by rw [c12]; decide) (by decide) ?_
    refine j_aload_n C dX3_perform_292 rfl rfl ?_
    refine j_iload_n C dX3_perform_293 rfl rfl ?_
    refine j_iload C dX3_perform_294 rfl ?_
    obtain ⟨p3, hP⟩ := hP
    refine j_callV C (MX3_takeLock_oc1 W a0 (FX3_slotOf a0 (h 3 (((FX5_firstPart_n a0 (h 28 (a0.toNatClampNeg)) h) + 1).toNatClampNeg))) h p3) dX3_perform_296 (CKX3_takeLock (by decide)) ⟨rfl, rfl⟩ lk_RX3_172 in_X3_takeLock se_X3_takeLock (W.lt 25 (by decide)) (sh_25 W) rfl rfl (Nat.le_of_ble_eq_true rfl) ?_
    intro r S' h' hq
    obtain ⟨e1, e2, e3⟩ := hq
    rw [e1, e2, e3]
    exact RETi_u hR _ _ dX3_perform_299
  have hP := hP.2 c12
  rw [if_neg c12] at hR
  rcases Classical.em ((h 3 ((FX5_firstPart_n a0 (h 28 (a0.toNatClampNeg)) h).toNatClampNeg)) = 13) with c13 | c13
  · have hP := hP.1 c13
    rw [if_pos c13] at hR
    refine j_tableIn (tgt := 300) (off := 219) C dX3_perform_81 (by rw [c13]; decide) (by rw [c13]; decide) (by rw [c13]; decide) (by decide) ?_
    refine j_aload_n C dX3_perform_300 rfl rfl ?_
    refine j_iload_n C dX3_perform_301 rfl rfl ?_
    refine j_iload C dX3_perform_302 rfl ?_
    obtain ⟨p3, hP⟩ := hP
    refine j_callV C (MX3_leaveLock_oc1 W a0 (FX3_slotOf a0 (h 3 (((FX5_firstPart_n a0 (h 28 (a0.toNatClampNeg)) h) + 1).toNatClampNeg))) h p3) dX3_perform_304 (CKX3_leaveLock (by decide)) ⟨rfl, rfl⟩ lk_RX3_175 in_X3_leaveLock se_X3_leaveLock (W.lt 25 (by decide)) (sh_25 W) rfl rfl (Nat.le_of_ble_eq_true rfl) ?_
    intro r S' h' hq
    obtain ⟨e1, e2, e3⟩ := hq
    rw [e1, e2, e3]
    exact RETi_u hR _ _ dX3_perform_307
  have hP := hP.2 c13
  rw [if_neg c13] at hR
  rcases Classical.em ((h 3 ((FX5_firstPart_n a0 (h 28 (a0.toNatClampNeg)) h).toNatClampNeg)) = 14) with c14 | c14
  · have hP := hP.1 c14
    rw [if_pos c14] at hR
    refine j_tableIn (tgt := 308) (off := 227) C dX3_perform_81 (by rw [c14]; decide) (by rw [c14]; decide) (by rw [c14]; decide) (by decide) ?_
    refine j_aload_n C dX3_perform_308 rfl rfl ?_
    refine j_iload_n C dX3_perform_309 rfl rfl ?_
    refine j_iload C dX3_perform_310 rfl ?_
    obtain ⟨p3, hP⟩ := hP
    refine j_callV C (MX3_lieDown_oc1 W a0 (FX3_slotOf a0 (h 3 (((FX5_firstPart_n a0 (h 28 (a0.toNatClampNeg)) h) + 1).toNatClampNeg))) h p3) dX3_perform_312 (CKX3_lieDown (by decide)) ⟨rfl, rfl⟩ lk_RX3_178 in_X3_lieDown se_X3_lieDown (W.lt 25 (by decide)) (sh_25 W) rfl rfl (Nat.le_of_ble_eq_true rfl) ?_
    intro r S' h' hq
    obtain ⟨e1, e2, e3⟩ := hq
    rw [e1, e2, e3]
    exact RETi_u hR _ _ dX3_perform_315
  have hP := hP.2 c14
  rw [if_neg c14] at hR
  rcases Classical.em ((h 3 ((FX5_firstPart_n a0 (h 28 (a0.toNatClampNeg)) h).toNatClampNeg)) = 15) with c15 | c15
  · have hP := hP.1 c15
    rw [if_pos c15] at hR
    refine j_tableIn (tgt := 316) (off := 235) C dX3_perform_81 (by rw [c15]; decide) (by rw [c15]; decide) (by rw [c15]; decide) (by decide) ?_
    refine j_aload_n C dX3_perform_316 rfl rfl ?_
    refine j_iload_n C dX3_perform_317 rfl rfl ?_
    refine j_iload C dX3_perform_318 rfl ?_
    obtain ⟨p3, hP⟩ := hP
    refine j_callV C (MX3_wakeSleepers_oc1 W a0 (FX3_slotOf a0 (h 3 (((FX5_firstPart_n a0 (h 28 (a0.toNatClampNeg)) h) + 1).toNatClampNeg))) h p3) dX3_perform_320 (CKX3_wakeSleepers (by decide)) ⟨rfl, rfl⟩ lk_RX3_181 in_X3_wakeSleepers se_X3_wakeSleepers (W.lt 25 (by decide)) (sh_25 W) rfl rfl (Nat.le_of_ble_eq_true rfl) ?_
    intro r S' h' hq
    obtain ⟨e1, e2, e3⟩ := hq
    rw [e1, e2, e3]
    exact RETi_u hR _ _ dX3_perform_323
  have hP := hP.2 c15
  rw [if_neg c15] at hR
  rcases Classical.em ((h 3 ((FX5_firstPart_n a0 (h 28 (a0.toNatClampNeg)) h).toNatClampNeg)) = 16) with c16 | c16
  · have hP := hP.1 c16
    rw [if_pos c16] at hR
    refine j_tableIn (tgt := 324) (off := 243) C dX3_perform_81 (by rw [c16]; decide) (by rw [c16]; decide) (by rw [c16]; decide) (by decide) ?_
    refine j_aload_n C dX3_perform_324 rfl rfl ?_
    refine j_iload C dX3_perform_325 rfl ?_
    obtain ⟨p2, hP⟩ := hP
    refine j_callV C (MX3_takeInput_oc1 W (FX3_slotOf a0 (h 3 (((FX5_firstPart_n a0 (h 28 (a0.toNatClampNeg)) h) + 1).toNatClampNeg))) h p2) dX3_perform_327 (CKX3_takeInput (by decide)) ⟨rfl, rfl⟩ lk_RX3_184 in_X3_takeInput se_X3_takeInput (W.lt 25 (by decide)) (sh_25 W) rfl rfl (Nat.le_of_ble_eq_true rfl) ?_
    intro r S' h' hq
    obtain ⟨e1, e2, e3⟩ := hq
    rw [e1, e2, e3]
    exact RETi_u hR _ _ dX3_perform_330
  have hP := hP.2 c16
  rw [if_neg c16] at hR
  rcases Classical.em ((h 3 ((FX5_firstPart_n a0 (h 28 (a0.toNatClampNeg)) h).toNatClampNeg)) = 17) with c17 | c17
  · have hP := hP.1 c17
    rw [if_pos c17] at hR
    refine j_tableIn (tgt := 331) (off := 250) C dX3_perform_81 (by rw [c17]; decide) (by rw [c17]; decide) (by rw [c17]; decide) (by decide) ?_
    refine j_aload_n C dX3_perform_331 rfl rfl ?_
    refine j_iload_n C dX3_perform_332 rfl rfl ?_
    refine j_iconst (v := 4) C dX3_perform_333 (by decide) ?_
    obtain ⟨p3, hP⟩ := hP
    refine j_callS C (MJ9_floorMod_7cf53 W (h 3 (((FX5_firstPart_n a0 (h 28 (a0.toNatClampNeg)) h) + 1).toNatClampNeg)) 4 h p3) dX3_perform_334 (CKJ9_floorMod_7cf53 (by decide)) ⟨rfl, rfl⟩ lk_RX3_139 st_J9_floorMod_7cf53 rfl (Nat.le_of_ble_eq_true rfl) ?_
    intro r S' h' hq
    obtain ⟨e1, hh, e3⟩ := hq
    rw [e1, hh, e3]
    obtain ⟨p8, hP⟩ := hP
    refine j_callV C (MX3_startThread_oc1 W (FJ9_floorMod_7cf53 (h 3 (((FX5_firstPart_n a0 (h 28 (a0.toNatClampNeg)) h) + 1).toNatClampNeg)) 4) h p8) dX3_perform_337 (CKX3_startThread (by decide)) ⟨rfl, rfl⟩ lk_RX3_187 in_X3_startThread se_X3_startThread (W.lt 25 (by decide)) (sh_25 W) rfl rfl (Nat.le_of_ble_eq_true rfl) ?_
    intro r S' h' hq
    obtain ⟨e1, e2, e3⟩ := hq
    rw [e1, e2, e3]
    exact RETi_u hR _ _ dX3_perform_340
  have hP := hP.2 c17
  rw [if_neg c17] at hR
  rcases Classical.em ((h 3 ((FX5_firstPart_n a0 (h 28 (a0.toNatClampNeg)) h).toNatClampNeg)) = 18) with c18 | c18
  · have hP := hP.1 c18
    rw [if_pos c18] at hR
    refine j_tableIn (tgt := 341) (off := 260) C dX3_perform_81 (by rw [c18]; decide) (by rw [c18]; decide) (by rw [c18]; decide) (by decide) ?_
    refine j_bipush (v := 10) C dX3_perform_341 (by decide) ?_
    refine j_iload C dX3_perform_343 rfl ?_
    refine j_bipush (v := 10) C dX3_perform_345 (by decide) ?_
    obtain ⟨p3, hP⟩ := hP
    refine j_callS C (MJ9_floorMod_7cf53 W (h 3 (((FX5_firstPart_n a0 (h 28 (a0.toNatClampNeg)) h) + 2).toNatClampNeg)) 10 h p3) dX3_perform_347 (CKJ9_floorMod_7cf53 (by decide)) ⟨rfl, rfl⟩ lk_RX3_139 st_J9_floorMod_7cf53 rfl (Nat.le_of_ble_eq_true rfl) ?_
    intro r S' h' hq
    obtain ⟨e1, hh, e3⟩ := hq
    rw [e1, hh, e3]
    refine j_iadd C dX3_perform_350 ?_
    exact RETi_u hR _ _ dX3_perform_351
  have hP := hP.2 c18
  rw [if_neg c18] at hR
  refine j_tableOut (tgt := 352) C dX3_perform_81 (sw_out (fun v h1 h2 e => by rcases (show v = 0 ∨ v = 1 ∨ v = 2 ∨ v = 3 ∨ v = 4 ∨ v = 5 ∨ v = 6 ∨ v = 7 ∨ v = 8 ∨ v = 9 ∨ v = 10 ∨ v = 11 ∨ v = 12 ∨ v = 13 ∨ v = 14 ∨ v = 15 ∨ v = 16 ∨ v = 17 ∨ v = 18 by omega) with z | z | z | z | z | z | z | z | z | z | z | z | z | z | z | z | z | z | z <;> rw [z] at e <;> first | exact c0 (e.trans (by decide)) | exact c1 (e.trans (by decide)) | exact c2 (e.trans (by decide)) | exact c3 (e.trans (by decide)) | exact c4 (e.trans (by decide)) | exact c5 (e.trans (by decide)) | exact c6 (e.trans (by decide)) | exact c7 (e.trans (by decide)) | exact c8 (e.trans (by decide)) | exact c9 (e.trans (by decide)) | exact c10 (e.trans (by decide)) | exact c11 (e.trans (by decide)) | exact c12 (e.trans (by decide)) | exact c13 (e.trans (by decide)) | exact c14 (e.trans (by decide)) | exact c15 (e.trans (by decide)) | exact c16 (e.trans (by decide)) | exact c17 (e.trans (by decide)) | exact c18 (e.trans (by decide)))) (by decide) ?_
  refine j_aload_n C dX3_perform_352 rfl rfl ?_
  refine j_bipush (v := 24) C dX3_perform_353 (by decide) ?_
  obtain ⟨p2, hP⟩ := hP
  refine j_callV C (MX3_goTo_oc1 W 24 h p2) dX3_perform_355 (CKX3_goTo (by decide)) ⟨rfl, rfl⟩ lk_RX3_153 in_X3_goTo se_X3_goTo (W.lt 25 (by decide)) (sh_25 W) rfl rfl (Nat.le_of_ble_eq_true rfl) ?_
  intro r S' h' hq
  obtain ⟨e1, e2, e3⟩ := hq
  rw [e1, e2, e3]
  exact RETi_u hR _ _ dX3_perform_358
theorem MX3_perform_oc1 {l0 : Launch} {Y : fj_Y} {ad : Nat → Nat} {n : Nat} {S : ph_S} (W : WS 1 n S) (a0 : Int32) (h : ph_H) (hP : PX3_perform_oc1 a0 h) : MI l0 yX3_perform cX3_perform 8 (some .int) ({ frames := 2, cells := 0, slots := 0, locals := 49 } : Room) Y ad n S h [.ref (ad 25), .int a0] (fun r S' h' => S' = S ∧ h' = (FX3_perform_oc1 a0 h).2 ∧ r = (FX3_perform_oc1 a0 h).1) := met_i (by decide) (Nat.le_of_ble_eq_true rfl) (fun _ _ _ _ => rfl) (fun X C K => j_vl (tX3_perform_oc1 W C a0 h hP (fun pc lv hd => K _ _ _ ⟨rfl, rfl, rfl⟩ pc lv hd)) ⟨rfl, rfl, trivial⟩)
