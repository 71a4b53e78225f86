-- X12_denied
def FX12_denied (a0 : Int32) (h : ph_H) : Int32 := if (FX12_isShelf a0) = 0 then ((-1)) else (if (h 44 (a0.toNatClampNeg)) = 0 then ((-11)) else (if (h 44 (a0.toNatClampNeg)) ≤ 1 then (0) else ((-12))))
def PX12_denied (a0 : Int32) (h : ph_H) : Prop := (PX12_isShelf a0) ∧ (((FX12_isShelf a0) = 0 → (True)) ∧ (¬ (FX12_isShelf a0) = 0 → (vp_in a0 8 ∧ (((h 44 (a0.toNatClampNeg)) = 0 → (True)) ∧ (¬ (h 44 (a0.toNatClampNeg)) = 0 → (vp_in a0 8 ∧ (((h 44 (a0.toNatClampNeg)) ≤ 1 → (True)) ∧ (¬ (h 44 (a0.toNatClampNeg)) ≤ 1 → (True)))))))))
set_option maxRecDepth 100000 in
set_option maxHeartbeats 4000000 in
theorem tX12_denied {X : fj_X} {Y : fj_Y} {l0 : Launch} {ad : Nat → Nat} (C : FC X Y l0 cX12_denied 2 RX12 ({ frames := 1, cells := 0, slots := 0, locals := 20 } : Room) 0 0 (some .int)) (a0 : Int32) (h : ph_H) (hP : PX12_denied a0 h) (hR : RETp X Y ad 50 SM h cX12_denied (FX12_denied a0 h)) : FJ X Y ad 50 SM h 0 [(0, .ref (ad 0)), (1, .int a0)] [] := by
  unfold PX12_denied at hP
  unfold FX12_denied at hR
  refine j_iload_n C dX12_denied_0 rfl rfl ?_
  obtain ⟨p1, hP⟩ := hP
  refine j_callS C (MX12_isShelf a0 h p1) dX12_denied_1 (CKX12_isShelf (by decide)) ⟨rfl, rfl⟩ lk_RX12_374 st_X12_isShelf rfl (Nat.le_of_ble_eq_true rfl) ?_
  intro r S' h' hq
  obtain ⟨rfl, hh, rfl, hb3⟩ := hq
  rw [hh]
  refine j_if_ne (tgt := 11) C dX12_denied_4 (by decide) (fun c0 => ?_) (fun c0 => ?_)
  · have hP := hP.2 c0
    rw [if_neg c0] at hR
    refine j_aload_n C dX12_denied_11 rfl rfl ?_
    refine gM_146 C dX12_denied_12 ?_
    refine j_iload_n C dX12_denied_15 rfl rfl ?_
    obtain ⟨p3, hP⟩ := hP
    refine j_iald (k := 44) (v := (h 44 (a0.toNatClampNeg))) C dX12_denied_16 (by decide) rfl p3 rfl ?_
    refine j_if_ne (tgt := 25) C dX12_denied_17 (by decide) (fun c1 => ?_) (fun c1 => ?_)
    · have hP := hP.2 c1
      rw [if_neg c1] at hR
      refine j_aload_n C dX12_denied_25 rfl rfl ?_
      refine gM_146 C dX12_denied_26 ?_
      refine j_iload_n C dX12_denied_29 rfl rfl ?_
      obtain ⟨p3, hP⟩ := hP
      refine j_iald (k := 44) (v := (h 44 (a0.toNatClampNeg))) C dX12_denied_30 (by decide) rfl p3 rfl ?_
      refine j_iconst (v := 1) C dX12_denied_31 (by decide) ?_
      refine j_icmp_le (tgt := 40) C dX12_denied_32 (by decide) (fun c2 => ?_) (fun c2 => ?_)
      · have hP := hP.1 c2
        rw [if_pos c2] at hR
        refine j_iconst (v := 0) C dX12_denied_40 (by decide) ?_
        exact hR _ _ dX12_denied_41
      · have hP := hP.2 c2
        rw [if_neg c2] at hR
        refine j_bipush (v := (-12)) C dX12_denied_35 (by decide) ?_
        refine j_goto (tgt := 41) C dX12_denied_37 (by decide) ?_
        exact hR _ _ dX12_denied_41
    · have hP := hP.1 c1
      rw [if_pos c1] at hR
      refine j_bipush (v := (-11)) C dX12_denied_20 (by decide) ?_
      refine j_goto (tgt := 41) C dX12_denied_22 (by decide) ?_
      exact hR _ _ dX12_denied_41
  · have hP := hP.1 c0
    rw [if_pos c0] at hR
    refine j_iconst (v := (-1)) C dX12_denied_7 (by decide) ?_
    refine j_goto (tgt := 41) C dX12_denied_8 (by decide) ?_
    exact hR _ _ dX12_denied_41
theorem MX12_denied {l0 : Launch} {Y : fj_Y} {ad : Nat → Nat} (a0 : Int32) (h : ph_H) (hP : PX12_denied a0 h) : MI l0 yX12_denied cX12_denied 2 (some .int) ({ frames := 1, cells := 0, slots := 0, locals := 20 } : Room) Y ad 50 SM h [.ref (ad 0), .int a0] (fun r S' h' => S' = SM ∧ h' = h ∧ r = FX12_denied a0 h) := met_i (by decide) (Nat.le_of_ble_eq_true rfl) (fun _ _ _ _ => rfl) (fun X C K => j_vl (tX12_denied C a0 h hP (fun pc lv hd => K _ _ _ ⟨rfl, rfl, rfl⟩ pc lv hd)) ⟨rfl, rfl, trivial⟩)

-- X12_weight
def FX12_weight (a0 : Int32) (h : ph_H) : Int32 × ph_H := if 0 ≤ (FX12_denied a0 (hs h 0 0 0)) then (if (h 47 (a0.toNatClampNeg)) = 1 then (((((h 46 (a0.toNatClampNeg)) + 1) + (10 * (h 45 (a0.toNatClampNeg)))), (hs h 0 0 0))) else (if (h 47 (a0.toNatClampNeg)) = 2 then (((((h 46 (a0.toNatClampNeg)) + 1) + 100), (hs h 0 0 0))) else (((2 * (((h 46 (a0.toNatClampNeg)) + 1) + 100)), (hs h 0 0 0))))) else (((FX12_denied a0 (hs h 0 0 0)), (hs h 0 0 0)))
def PX12_weight (a0 : Int32) (h : ph_H) : Prop := (PX12_denied a0 (hs h 0 0 0)) ∧ ((0 ≤ (FX12_denied a0 (hs h 0 0 0)) → (vp_in a0 8 ∧ (vp_in a0 8 ∧ (((h 47 (a0.toNatClampNeg)) = 1 → (vp_in a0 8 ∧ (True))) ∧ (¬ (h 47 (a0.toNatClampNeg)) = 1 → (vp_in a0 8 ∧ (((h 47 (a0.toNatClampNeg)) = 2 → (True)) ∧ (¬ (h 47 (a0.toNatClampNeg)) = 2 → (True))))))))) ∧ (¬ 0 ≤ (FX12_denied a0 (hs h 0 0 0)) → (True)))
set_option maxRecDepth 100000 in
set_option maxHeartbeats 4000000 in
theorem tX12_weight {X : fj_X} {Y : fj_Y} {l0 : Launch} {ad : Nat → Nat} (C : FC X Y l0 cX12_weight 4 RX12 ({ frames := 2, cells := 0, slots := 0, locals := 41 } : Room) 0 0 (some .int)) (a0 : Int32) (h : ph_H) (hP : PX12_weight a0 h) (hR : RETi X Y ad 50 SM cX12_weight (FX12_weight a0 h)) : FJ X Y ad 50 SM h 0 [(0, .ref (ad 0)), (1, .int a0)] [] := by
  unfold PX12_weight at hP
  unfold FX12_weight at hR
  refine j_aload_n C dX12_weight_0 rfl rfl ?_
  refine j_iconst (v := 0) C dX12_weight_1 (by decide) ?_
  refine pM_164 C dX12_weight_2 ?_
  refine j_aload_n C dX12_weight_5 rfl rfl ?_
  refine j_iload_n C dX12_weight_6 rfl rfl ?_
  obtain ⟨p5, hP⟩ := hP
  refine j_callV C (MX12_denied a0 (hs h 0 0 0) p5) dX12_weight_7 (CKX12_denied (by decide)) ⟨rfl, rfl⟩ lk_RX12_380 in_X12_denied se_X12_denied (by decide) rfl rfl rfl (Nat.le_of_ble_eq_true rfl) ?_
  intro r S' h' hq
  obtain ⟨rfl, hh, rfl⟩ := hq
  rw [hh]
  refine j_istore_n C dX12_weight_10 rfl (by decide) rfl ?_
  refine j_iload_n C dX12_weight_11 rfl rfl ?_
  refine j_if_ge (tgt := 17) C dX12_weight_12 (by decide) (fun c0 => ?_) (fun c0 => ?_)
  · have hP := hP.1 c0
    rw [if_pos c0] at hR
    refine j_aload_n C dX12_weight_17 rfl rfl ?_
    refine gM_152 C dX12_weight_18 ?_
    refine j_iload_n C dX12_weight_21 rfl rfl ?_
    obtain ⟨p3, hP⟩ := hP
    refine j_iald (k := 46) (v := (h 46 (a0.toNatClampNeg))) C dX12_weight_22 (by decide) rfl p3 (hz_k (by decide)) ?_
    refine j_iconst (v := 1) C dX12_weight_23 (by decide) ?_
    refine j_iadd C dX12_weight_24 ?_
    refine j_istore_n C dX12_weight_25 rfl (by decide) rfl ?_
    refine j_aload_n C dX12_weight_26 rfl rfl ?_
    refine gM_155 C dX12_weight_27 ?_
    refine j_iload_n C dX12_weight_30 rfl rfl ?_
    obtain ⟨p11, hP⟩ := hP
    refine j_iald (k := 47) (v := (h 47 (a0.toNatClampNeg))) C dX12_weight_31 (by decide) rfl p11 (hz_k (by decide)) ?_
    refine j_iconst (v := 1) C dX12_weight_32 (by decide) ?_
    refine j_icmp_ne (tgt := 50) C dX12_weight_33 (by decide) (fun c1 => ?_) (fun c1 => ?_)
    · have hP := hP.2 c1
      rw [if_neg c1] at hR
      refine j_aload_n C dX12_weight_50 rfl rfl ?_
      refine gM_155 C dX12_weight_51 ?_
      refine j_iload_n C dX12_weight_54 rfl rfl ?_
      obtain ⟨p3, hP⟩ := hP
      refine j_iald (k := 47) (v := (h 47 (a0.toNatClampNeg))) C dX12_weight_55 (by decide) rfl p3 (hz_k (by decide)) ?_
      refine j_iconst (v := 2) C dX12_weight_56 (by decide) ?_
      refine j_icmp_ne (tgt := 67) C dX12_weight_57 (by decide) (fun c2 => ?_) (fun c2 => ?_)
      · have hP := hP.2 c2
        rw [if_neg c2] at hR
        refine j_iconst (v := 2) C dX12_weight_67 (by decide) ?_
        refine j_iload_n C dX12_weight_68 rfl rfl ?_
        refine j_bipush (v := 100) C dX12_weight_69 (by decide) ?_
        refine j_iadd C dX12_weight_71 ?_
        refine j_imul C dX12_weight_72 ?_
        exact hR _ _ dX12_weight_73
      · have hP := hP.1 c2
        rw [if_pos c2] at hR
        refine j_iload_n C dX12_weight_60 rfl rfl ?_
        refine j_bipush (v := 100) C dX12_weight_61 (by decide) ?_
        refine j_iadd C dX12_weight_63 ?_
        refine j_goto (tgt := 73) C dX12_weight_64 (by decide) ?_
        exact hR _ _ dX12_weight_73
    · have hP := hP.1 c1
      rw [if_pos c1] at hR
      refine j_iload_n C dX12_weight_36 rfl rfl ?_
      refine j_bipush (v := 10) C dX12_weight_37 (by decide) ?_
      refine j_aload_n C dX12_weight_39 rfl rfl ?_
      refine gM_149 C dX12_weight_40 ?_
      refine j_iload_n C dX12_weight_43 rfl rfl ?_
      obtain ⟨p5, hP⟩ := hP
      refine j_iald (k := 45) (v := (h 45 (a0.toNatClampNeg))) C dX12_weight_44 (by decide) rfl p5 (hz_k (by decide)) ?_
      refine j_imul C dX12_weight_45 ?_
      refine j_iadd C dX12_weight_46 ?_
      refine j_goto (tgt := 73) C dX12_weight_47 (by decide) ?_
      exact hR _ _ dX12_weight_73
  · have hP := hP.2 c0
    rw [if_neg c0] at hR
    refine j_iload_n C dX12_weight_15 rfl rfl ?_
    exact hR _ _ dX12_weight_16
theorem MX12_weight {l0 : Launch} {Y : fj_Y} {ad : Nat → Nat} (a0 : Int32) (h : ph_H) (hP : PX12_weight a0 h) : MI l0 yX12_weight cX12_weight 4 (some .int) ({ frames := 2, cells := 0, slots := 0, locals := 41 } : Room) Y ad 50 SM h [.ref (ad 0), .int a0] (fun r S' h' => S' = SM ∧ h' = (FX12_weight a0 h).2 ∧ r = (FX12_weight a0 h).1) := met_i (by decide) (Nat.le_of_ble_eq_true rfl) (fun _ _ _ _ => rfl) (fun X C K => j_vl (tX12_weight C a0 h hP (fun pc lv hd => K _ _ _ ⟨rfl, rfl, rfl⟩ pc lv hd)) ⟨rfl, rfl, trivial⟩)

-- X12_toss
def FX12_toss (a0 : Int32) (h : ph_H) : Int32 × ph_H := if 0 ≤ (FX12_denied a0 (hs h 0 0 0)) then (if (h 47 (a0.toNatClampNeg)) = 1 then (((-15), (hs h 0 0 0))) else (((h 46 (a0.toNatClampNeg)), (hs h 0 0 0)))) else (((FX12_denied a0 (hs h 0 0 0)), (hs h 0 0 0)))
def PX12_toss (a0 : Int32) (h : ph_H) : Prop := (PX12_denied a0 (hs h 0 0 0)) ∧ ((0 ≤ (FX12_denied a0 (hs h 0 0 0)) → (vp_in a0 8 ∧ (((h 47 (a0.toNatClampNeg)) = 1 → (True)) ∧ (¬ (h 47 (a0.toNatClampNeg)) = 1 → (vp_in a0 8 ∧ (True)))))) ∧ (¬ 0 ≤ (FX12_denied a0 (hs h 0 0 0)) → (True)))
set_option maxRecDepth 100000 in
set_option maxHeartbeats 4000000 in
theorem tX12_toss {X : fj_X} {Y : fj_Y} {l0 : Launch} {ad : Nat → Nat} (C : FC X Y l0 cX12_toss 3 RX12 ({ frames := 2, cells := 0, slots := 0, locals := 41 } : Room) 0 0 (some .int)) (a0 : Int32) (h : ph_H) (hP : PX12_toss a0 h) (hR : RETi X Y ad 50 SM cX12_toss (FX12_toss a0 h)) : FJ X Y ad 50 SM h 0 [(0, .ref (ad 0)), (1, .int a0)] [] := by
  unfold PX12_toss at hP
  unfold FX12_toss at hR
  refine j_aload_n C dX12_toss_0 rfl rfl ?_
  refine j_iconst (v := 0) C dX12_toss_1 (by decide) ?_
  refine pM_164 C dX12_toss_2 ?_
  refine j_aload_n C dX12_toss_5 rfl rfl ?_
  refine j_iload_n C dX12_toss_6 rfl rfl ?_
  obtain ⟨p5, hP⟩ := hP
  refine j_callV C (MX12_denied a0 (hs h 0 0 0) p5) dX12_toss_7 (CKX12_denied (by decide)) ⟨rfl, rfl⟩ lk_RX12_380 in_X12_denied se_X12_denied (by decide) rfl rfl rfl (Nat.le_of_ble_eq_true rfl) ?_
  intro r S' h' hq
  obtain ⟨rfl, hh, rfl⟩ := hq
  rw [hh]
  refine j_istore_n C dX12_toss_10 rfl (by decide) rfl ?_
  refine j_iload_n C dX12_toss_11 rfl rfl ?_
  refine j_if_ge (tgt := 19) C dX12_toss_12 (by decide) (fun c0 => ?_) (fun c0 => ?_)
  · have hP := hP.1 c0
    rw [if_pos c0] at hR
    refine j_aload_n C dX12_toss_19 rfl rfl ?_
    refine gM_155 C dX12_toss_20 ?_
    refine j_iload_n C dX12_toss_23 rfl rfl ?_
    obtain ⟨p3, hP⟩ := hP
    refine j_iald (k := 47) (v := (h 47 (a0.toNatClampNeg))) C dX12_toss_24 (by decide) rfl p3 (hz_k (by decide)) ?_
    refine j_iconst (v := 1) C dX12_toss_25 (by decide) ?_
    refine j_icmp_ne (tgt := 34) C dX12_toss_26 (by decide) (fun c1 => ?_) (fun c1 => ?_)
    · have hP := hP.2 c1
      rw [if_neg c1] at hR
      refine j_aload_n C dX12_toss_34 rfl rfl ?_
      refine gM_152 C dX12_toss_35 ?_
      refine j_iload_n C dX12_toss_38 rfl rfl ?_
      obtain ⟨p3, hP⟩ := hP
      refine j_iald (k := 46) (v := (h 46 (a0.toNatClampNeg))) C dX12_toss_39 (by decide) rfl p3 (hz_k (by decide)) ?_
      exact hR _ _ dX12_toss_40
    · have hP := hP.1 c1
      rw [if_pos c1] at hR
      refine j_bipush (v := (-15)) C dX12_toss_29 (by decide) ?_
      refine j_goto (tgt := 40) C dX12_toss_31 (by decide) ?_
      exact hR _ _ dX12_toss_40
  · have hP := hP.2 c0
    rw [if_neg c0] at hR
    refine j_iload_n C dX12_toss_15 rfl rfl ?_
    refine j_goto (tgt := 40) C dX12_toss_16 (by decide) ?_
    exact hR _ _ dX12_toss_40
theorem MX12_toss {l0 : Launch} {Y : fj_Y} {ad : Nat → Nat} (a0 : Int32) (h : ph_H) (hP : PX12_toss a0 h) : MI l0 yX12_toss cX12_toss 3 (some .int) ({ frames := 2, cells := 0, slots := 0, locals := 41 } : Room) Y ad 50 SM h [.ref (ad 0), .int a0] (fun r S' h' => S' = SM ∧ h' = (FX12_toss a0 h).2 ∧ r = (FX12_toss a0 h).1) := met_i (by decide) (Nat.le_of_ble_eq_true rfl) (fun _ _ _ _ => rfl) (fun X C K => j_vl (tX12_toss C a0 h hP (fun pc lv hd => K _ _ _ ⟨rfl, rfl, rfl⟩ pc lv hd)) ⟨rfl, rfl, trivial⟩)
