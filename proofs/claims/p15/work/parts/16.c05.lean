-- X5_has_n
def FX5_has_n (a0 : Int32) (a1 : Int32) (h : ph_H) : Int32 := if a1 < 0 then (0) else (if 24 ≤ a1 then (0) else (if (h 2 (a0.toNatClampNeg)) ≤ a1 then (0) else (1)))
def PX5_has_n (a0 : Int32) (a1 : Int32) (h : ph_H) : Prop := (a1 < 0 → (True)) ∧ (¬ a1 < 0 → ((24 ≤ a1 → (True)) ∧ (¬ 24 ≤ a1 → (vp_in a0 4 ∧ (((h 2 (a0.toNatClampNeg)) ≤ a1 → (True)) ∧ (¬ (h 2 (a0.toNatClampNeg)) ≤ a1 → (True)))))))
set_option maxRecDepth 100000 in
set_option maxHeartbeats 4000000 in
theorem tX5_has_n {X : fj_X} {Y : fj_Y} {l0 : Launch} {ad : Nat → Nat} {n : Nat} {S : ph_S} {pr : Nat} (W : WS pr n S) (C : FC X Y l0 cX5_has 3 RX5 ({ frames := 0, cells := 0, slots := 0, locals := 0 } : Room) 0 0 (some .boolean)) (a0 : Int32) (a1 : Int32) (h : ph_H) (hP : PX5_has_n a0 a1 h) (hR : RETq X Y ad n S h cX5_has (FX5_has_n a0 a1 h)) : FJ X Y ad n S h 0 [(0, .ref (ad 1)), (1, .int a0), (2, .int a1)] [] := by
  unfold PX5_has_n at hP
  unfold FX5_has_n at hR
  refine j_iload_n C dX5_has_0 rfl rfl ?_
  refine j_if_lt (tgt := 24) C dX5_has_1 (by decide) (fun c0 => ?_) (fun c0 => ?_)
  · have hP := hP.1 c0
    rw [if_pos c0] at hR
    refine j_iconst (v := 0) C dX5_has_24 (by decide) ?_
    exact hR bo_0 _ _ dX5_has_25
  · have hP := hP.2 c0
    rw [if_neg c0] at hR
    refine j_iload_n C dX5_has_4 rfl rfl ?_
    refine j_bipush (v := 24) C dX5_has_5 (by decide) ?_
    refine j_icmp_ge (tgt := 24) C dX5_has_7 (by decide) (fun c1 => ?_) (fun c1 => ?_)
    · have hP := hP.1 c1
      rw [if_pos c1] at hR
      refine j_iconst (v := 0) C dX5_has_24 (by decide) ?_
      exact hR bo_0 _ _ dX5_has_25
    · have hP := hP.2 c1
      rw [if_neg c1] at hR
      refine j_iload_n C dX5_has_10 rfl rfl ?_
      refine j_aload_n C dX5_has_11 rfl rfl ?_
      refine gCRX5_9 C dX5_has_12 (W.lt 1 (by decide)) (sh_1 W) rfl ?_
      refine j_iload_n C dX5_has_15 rfl rfl ?_
      obtain ⟨p4, hP⟩ := hP
      refine j_iald (k := 2) (v := (h 2 (a0.toNatClampNeg))) C dX5_has_16 (W.lt 2 (by decide)) (sh_2 W) p4 rfl ?_
      refine j_icmp_ge (tgt := 24) C dX5_has_17 (by decide) (fun c2 => ?_) (fun c2 => ?_)
      · have hP := hP.1 c2
        rw [if_pos c2] at hR
        refine j_iconst (v := 0) C dX5_has_24 (by decide) ?_
        exact hR bo_0 _ _ dX5_has_25
      · have hP := hP.2 c2
        rw [if_neg c2] at hR
        refine j_iconst (v := 1) C dX5_has_20 (by decide) ?_
        refine j_goto (tgt := 25) C dX5_has_21 (by decide) ?_
        exact hR bo_1 _ _ dX5_has_25
theorem MX5_has_n {l0 : Launch} {Y : fj_Y} {ad : Nat → Nat} {n : Nat} {S : ph_S} {pr : Nat} (W : WS pr n S) (a0 : Int32) (a1 : Int32) (h : ph_H) (hP : PX5_has_n a0 a1 h) : MI l0 yX5_has cX5_has 3 (some .boolean) ({ frames := 0, cells := 0, slots := 0, locals := 0 } : Room) Y ad n S h [.ref (ad 1), .int a0, .int a1] (fun r S' h' => S' = S ∧ h' = h ∧ r = FX5_has_n a0 a1 h ∧ bo r) := met_i (by decide) (Nat.le_of_ble_eq_true rfl) (fun _ _ _ q => bo_n q.2.2.2) (fun X C K => j_vl (tX5_has_n W C a0 a1 h hP (fun b pc lv hd => K _ _ _ ⟨rfl, rfl, rfl, b⟩ pc lv hd)) ⟨rfl, rfl, rfl, trivial⟩)

-- X3_hasEnded_oc1
def FX3_hasEnded_oc1 (a0 : Int32) (h : ph_H) : Int32 := if (FX5_has_n a0 (h 28 (a0.toNatClampNeg)) h) = 0 then (1) else (0)
def PX3_hasEnded_oc1 (a0 : Int32) (h : ph_H) : Prop := vp_in a0 4 ∧ ((PX5_has_n a0 (h 28 (a0.toNatClampNeg)) h) ∧ (((FX5_has_n a0 (h 28 (a0.toNatClampNeg)) h) = 0 → (True)) ∧ (¬ (FX5_has_n a0 (h 28 (a0.toNatClampNeg)) h) = 0 → (True))))
set_option maxRecDepth 100000 in
set_option maxHeartbeats 4000000 in
theorem tX3_hasEnded_oc1 {X : fj_X} {Y : fj_Y} {l0 : Launch} {ad : Nat → Nat} {n : Nat} {S : ph_S} (W : WS 1 n S) (C : FC X Y l0 cX3_hasEnded 2 RX3 ({ frames := 1, cells := 0, slots := 0, locals := 22 } : Room) 0 0 (some .boolean)) (a0 : Int32) (h : ph_H) (hP : PX3_hasEnded_oc1 a0 h) (hR : RETq X Y ad n S h cX3_hasEnded (FX3_hasEnded_oc1 a0 h)) : FJ X Y ad n S h 0 [(0, .ref (ad 25)), (1, .int a0)] [] := by
  unfold PX3_hasEnded_oc1 at hP
  unfold FX3_hasEnded_oc1 at hR
  refine j_aload_n C dX3_hasEnded_0 rfl rfl ?_
  refine gCRX3_39 C dX3_hasEnded_1 (W.lt 25 (by decide)) (sh_25 W) rfl ?_
  refine j_iload_n C dX3_hasEnded_4 rfl rfl ?_
  refine j_aload_n C dX3_hasEnded_5 rfl rfl ?_
  refine gCRX3_18 C dX3_hasEnded_6 (W.lt 25 (by decide)) (sh_25 W) rfl ?_
  refine j_iload_n C dX3_hasEnded_9 rfl rfl ?_
  obtain ⟨p6, hP⟩ := hP
  refine j_iald (k := 28) (v := (h 28 (a0.toNatClampNeg))) C dX3_hasEnded_10 (W.lt 28 (by decide)) (sh_28 W) p6 rfl ?_
  obtain ⟨p8, hP⟩ := hP
  refine j_callV C (MX5_has_n W a0 (h 28 (a0.toNatClampNeg)) h p8) dX3_hasEnded_11 (CKX5_has (by decide)) ⟨rfl, rfl⟩ lk_RX3_70 in_X5_has se_X5_has (W.lt 1 (by decide)) (sh_1 W) rfl rfl (Nat.le_of_ble_eq_true rfl) ?_
  intro r S' h' hq
  obtain ⟨e1, hh, e3, hb10⟩ := hq
  rw [e1, hh, e3]
  refine j_if_ne (tgt := 21) C dX3_hasEnded_14 (by decide) (fun c0 => ?_) (fun c0 => ?_)
  · have hP := hP.2 c0
    rw [if_neg c0] at hR
    refine j_iconst (v := 0) C dX3_hasEnded_21 (by decide) ?_
    exact hR bo_0 _ _ dX3_hasEnded_22
  · have hP := hP.1 c0
    rw [if_pos c0] at hR
    refine j_iconst (v := 1) C dX3_hasEnded_17 (by decide) ?_
    refine j_goto (tgt := 22) C dX3_hasEnded_18 (by decide) ?_
    exact hR bo_1 _ _ dX3_hasEnded_22
theorem MX3_hasEnded_oc1 {l0 : Launch} {Y : fj_Y} {ad : Nat → Nat} {n : Nat} {S : ph_S} (W : WS 1 n S) (a0 : Int32) (h : ph_H) (hP : PX3_hasEnded_oc1 a0 h) : MI l0 yX3_hasEnded cX3_hasEnded 2 (some .boolean) ({ frames := 1, cells := 0, slots := 0, locals := 22 } : Room) Y ad n S h [.ref (ad 25), .int a0] (fun r S' h' => S' = S ∧ h' = h ∧ r = FX3_hasEnded_oc1 a0 h ∧ bo r) := met_i (by decide) (Nat.le_of_ble_eq_true rfl) (fun _ _ _ q => bo_n q.2.2.2) (fun X C K => j_vl (tX3_hasEnded_oc1 W C a0 h hP (fun b pc lv hd => K _ _ _ ⟨rfl, rfl, rfl, b⟩ pc lv hd)) ⟨rfl, rfl, trivial⟩)

-- X3_lockIn_oc1
def FX3_lockIn_oc1_20  (x1 : Int32) (h : ph_H) : Int32 := (h 27 (x1.toNatClampNeg))
def PX3_lockIn_oc1_20  (x1 : Int32) (h : ph_H) : Prop := vp_in x1 28 ∧ (True)
set_option maxRecDepth 100000 in
set_option maxHeartbeats 4000000 in
theorem tX3_lockIn_oc1_20 {X : fj_X} {Y : fj_Y} {l0 : Launch} {ad : Nat → Nat} {n : Nat} {S : ph_S} (W : WS 1 n S) (C : FC X Y l0 cX3_lockIn 2 RX3 ({ frames := 0, cells := 0, slots := 0, locals := 0 } : Room) 0 0 (some .int)) (h : ph_H) (x1 : Int32) (hP : PX3_lockIn_oc1_20  x1 h) (hR : RETp X Y ad n S h cX3_lockIn (FX3_lockIn_oc1_20  x1 h)) : FJ X Y ad n S h 20 [(0, .ref (ad 25)), (1, .int x1)] [] := by
  unfold PX3_lockIn_oc1_20 at hP
  unfold FX3_lockIn_oc1_20 at hR
  refine j_aload_n C dX3_lockIn_20 rfl rfl ?_
  refine gCRX3_15 C dX3_lockIn_21 (W.lt 25 (by decide)) (sh_25 W) rfl ?_
  refine j_iload_n C dX3_lockIn_24 rfl rfl ?_
  obtain ⟨p3, hP⟩ := hP
  refine j_iald (k := 27) (v := (h 27 (x1.toNatClampNeg))) C dX3_lockIn_25 (W.lt 27 (by decide)) (sh_27 W) p3 rfl ?_
  refine j_goto (tgt := 30) C dX3_lockIn_26 (by decide) ?_
  exact hR _ _ dX3_lockIn_30
def FX3_lockIn_oc1 (a0 : Int32) (h : ph_H) : Int32 := if (h 26 (a0.toNatClampNeg)) = 2 then (FX3_lockIn_oc1_20  a0 h) else (if (h 26 (a0.toNatClampNeg)) = 3 then (FX3_lockIn_oc1_20  a0 h) else ((-1)))
def PX3_lockIn_oc1 (a0 : Int32) (h : ph_H) : Prop := vp_in a0 28 ∧ (((h 26 (a0.toNatClampNeg)) = 2 → (PX3_lockIn_oc1_20  a0 h)) ∧ (¬ (h 26 (a0.toNatClampNeg)) = 2 → (vp_in a0 28 ∧ (((h 26 (a0.toNatClampNeg)) = 3 → (PX3_lockIn_oc1_20  a0 h)) ∧ (¬ (h 26 (a0.toNatClampNeg)) = 3 → (True))))))
set_option maxRecDepth 100000 in
set_option maxHeartbeats 4000000 in
theorem tX3_lockIn_oc1 {X : fj_X} {Y : fj_Y} {l0 : Launch} {ad : Nat → Nat} {n : Nat} {S : ph_S} (W : WS 1 n S) (C : FC X Y l0 cX3_lockIn 2 RX3 ({ frames := 0, cells := 0, slots := 0, locals := 0 } : Room) 0 0 (some .int)) (a0 : Int32) (h : ph_H) (hP : PX3_lockIn_oc1 a0 h) (hR : RETp X Y ad n S h cX3_lockIn (FX3_lockIn_oc1 a0 h)) : FJ X Y ad n S h 0 [(0, .ref (ad 25)), (1, .int a0)] [] := by
  unfold PX3_lockIn_oc1 at hP
  unfold FX3_lockIn_oc1 at hR
  refine j_aload_n C dX3_lockIn_0 rfl rfl ?_
  refine gCRX3_9 C dX3_lockIn_1 (W.lt 25 (by decide)) (sh_25 W) rfl ?_
  refine j_iload_n C dX3_lockIn_4 rfl rfl ?_
  obtain ⟨p3, hP⟩ := hP
  refine j_iald (k := 26) (v := (h 26 (a0.toNatClampNeg))) C dX3_lockIn_5 (W.lt 26 (by decide)) (sh_26 W) p3 rfl ?_
  refine j_iconst (v := 2) C dX3_lockIn_6 (by decide) ?_
  refine j_icmp_eq (tgt := 20) C dX3_lockIn_7 (by decide) (fun c0 => ?_) (fun c0 => ?_)
  · have hP := hP.1 c0
    rw [if_pos c0] at hR
    exact j_vl (tX3_lockIn_oc1_20 W C h a0 hP hR) ⟨rfl, rfl, trivial⟩
  · have hP := hP.2 c0
    rw [if_neg c0] at hR
    refine j_aload_n C dX3_lockIn_10 rfl rfl ?_
    refine gCRX3_9 C dX3_lockIn_11 (W.lt 25 (by decide)) (sh_25 W) rfl ?_
    refine j_iload_n C dX3_lockIn_14 rfl rfl ?_
    obtain ⟨p3, hP⟩ := hP
    refine j_iald (k := 26) (v := (h 26 (a0.toNatClampNeg))) C dX3_lockIn_15 (W.lt 26 (by decide)) (sh_26 W) p3 rfl ?_
    refine j_iconst (v := 3) C dX3_lockIn_16 (by decide) ?_
    refine j_icmp_ne (tgt := 29) C dX3_lockIn_17 (by decide) (fun c1 => ?_) (fun c1 => ?_)
    · have hP := hP.2 c1
      rw [if_neg c1] at hR
      refine j_iconst (v := (-1)) C dX3_lockIn_29 (by decide) ?_
      exact hR _ _ dX3_lockIn_30
    · have hP := hP.1 c1
      rw [if_pos c1] at hR
      exact j_vl (tX3_lockIn_oc1_20 W C h a0 hP hR) ⟨rfl, rfl, trivial⟩
theorem MX3_lockIn_oc1 {l0 : Launch} {Y : fj_Y} {ad : Nat → Nat} {n : Nat} {S : ph_S} (W : WS 1 n S) (a0 : Int32) (h : ph_H) (hP : PX3_lockIn_oc1 a0 h) : MI l0 yX3_lockIn cX3_lockIn 2 (some .int) ({ frames := 0, cells := 0, slots := 0, locals := 0 } : Room) Y ad n S h [.ref (ad 25), .int a0] (fun r S' h' => S' = S ∧ h' = h ∧ r = FX3_lockIn_oc1 a0 h) := met_i (by decide) (Nat.le_of_ble_eq_true rfl) (fun _ _ _ _ => rfl) (fun X C K => j_vl (tX3_lockIn_oc1 W C a0 h hP (fun pc lv hd => K _ _ _ ⟨rfl, rfl, rfl⟩ pc lv hd)) ⟨rfl, rfl, trivial⟩)

-- X3_canGo_oc1
def FX3_canGo_oc1_137  (h : ph_H) : Int32 := 1
def PX3_canGo_oc1_137  (h : ph_H) : Prop := True
set_option maxRecDepth 100000 in
set_option maxHeartbeats 4000000 in
theorem tX3_canGo_oc1_137 {X : fj_X} {Y : fj_Y} {l0 : Launch} {ad : Nat → Nat} {n : Nat} {S : ph_S} (W : WS 1 n S) (C : FC X Y l0 cX3_canGo 4 RX3 ({ frames := 2, cells := 0, slots := 0, locals := 43 } : Room) 0 0 (some .boolean)) (h : ph_H)  (hP : PX3_canGo_oc1_137  h) (hR : RETq X Y ad n S h cX3_canGo (FX3_canGo_oc1_137  h)) : FJ X Y ad n S h 137 [] [] := by
  unfold PX3_canGo_oc1_137 at hP
  unfold FX3_canGo_oc1_137 at hR
  refine j_iconst (v := 1) C dX3_canGo_137 (by decide) ?_
  refine j_goto (tgt := 142) C dX3_canGo_138 (by decide) ?_
  exact hR bo_1 _ _ dX3_canGo_142
def FX3_canGo_oc1 (a0 : Int32) (h : ph_H) : Int32 := if (h 29 (a0.toNatClampNeg)) = 0 then (0) else (if (h 29 (a0.toNatClampNeg)) = 2 then (0) else (if (FX3_hasEnded_oc1 a0 h) = 0 then (if (h 29 (a0.toNatClampNeg)) = 3 then (if (h 33 ((h 30 (a0.toNatClampNeg)).toNatClampNeg)) = (-2) then (1) else (0)) else (if (h 3 ((FX5_firstPart_n a0 (h 28 (a0.toNatClampNeg)) h).toNatClampNeg)) = 12 then (if (FX3_lockIn_oc1 (FX3_slotOf a0 (h 3 (((FX5_firstPart_n a0 (h 28 (a0.toNatClampNeg)) h) + 1).toNatClampNeg))) h) < 0 then (FX3_canGo_oc1_137  h) else (if (h 33 ((FX3_lockIn_oc1 (FX3_slotOf a0 (h 3 (((FX5_firstPart_n a0 (h 28 (a0.toNatClampNeg)) h) + 1).toNatClampNeg))) h).toNatClampNeg)) = (-2) then (FX3_canGo_oc1_137  h) else (if (h 33 ((FX3_lockIn_oc1 (FX3_slotOf a0 (h 3 (((FX5_firstPart_n a0 (h 28 (a0.toNatClampNeg)) h) + 1).toNatClampNeg))) h).toNatClampNeg)) = a0 then (FX3_canGo_oc1_137  h) else (0)))) else (1))) else (0)))
def PX3_canGo_oc1 (a0 : Int32) (h : ph_H) : Prop := vp_in a0 4 ∧ (((h 29 (a0.toNatClampNeg)) = 0 → (True)) ∧ (¬ (h 29 (a0.toNatClampNeg)) = 0 → (vp_in a0 4 ∧ (((h 29 (a0.toNatClampNeg)) = 2 → (True)) ∧ (¬ (h 29 (a0.toNatClampNeg)) = 2 → ((PX3_hasEnded_oc1 a0 h) ∧ (((FX3_hasEnded_oc1 a0 h) = 0 → (vp_in a0 4 ∧ (((h 29 (a0.toNatClampNeg)) = 3 → (vp_in a0 4 ∧ (vp_in (h 30 (a0.toNatClampNeg)) 12 ∧ (((h 33 ((h 30 (a0.toNatClampNeg)).toNatClampNeg)) = (-2) → (True)) ∧ (¬ (h 33 ((h 30 (a0.toNatClampNeg)).toNatClampNeg)) = (-2) → (True)))))) ∧ (¬ (h 29 (a0.toNatClampNeg)) = 3 → (vp_in a0 4 ∧ ((PX5_firstPart_n a0 (h 28 (a0.toNatClampNeg)) h) ∧ (vp_in (FX5_firstPart_n a0 (h 28 (a0.toNatClampNeg)) h) 384 ∧ (((h 3 ((FX5_firstPart_n a0 (h 28 (a0.toNatClampNeg)) h).toNatClampNeg)) = 12 → (vp_in ((FX5_firstPart_n a0 (h 28 (a0.toNatClampNeg)) h) + 1) 384 ∧ ((PX3_slotOf a0 (h 3 (((FX5_firstPart_n a0 (h 28 (a0.toNatClampNeg)) h) + 1).toNatClampNeg))) ∧ ((PX3_lockIn_oc1 (FX3_slotOf a0 (h 3 (((FX5_firstPart_n a0 (h 28 (a0.toNatClampNeg)) h) + 1).toNatClampNeg))) h) ∧ (((FX3_lockIn_oc1 (FX3_slotOf a0 (h 3 (((FX5_firstPart_n a0 (h 28 (a0.toNatClampNeg)) h) + 1).toNatClampNeg))) h) < 0 → (PX3_canGo_oc1_137  h)) ∧ (¬ (FX3_lockIn_oc1 (FX3_slotOf a0 (h 3 (((FX5_firstPart_n a0 (h 28 (a0.toNatClampNeg)) h) + 1).toNatClampNeg))) h) < 0 → (vp_in (FX3_lockIn_oc1 (FX3_slotOf a0 (h 3 (((FX5_firstPart_n a0 (h 28 (a0.toNatClampNeg)) h) + 1).toNatClampNeg))) h) 12 ∧ (((h 33 ((FX3_lockIn_oc1 (FX3_slotOf a0 (h 3 (((FX5_firstPart_n a0 (h 28 (a0.toNatClampNeg)) h) + 1).toNatClampNeg))) h).toNatClampNeg)) = (-2) → (PX3_canGo_oc1_137  h)) ∧ (¬ (h 33 ((FX3_lockIn_oc1 (FX3_slotOf a0 (h 3 (((FX5_firstPart_n a0 (h 28 (a0.toNatClampNeg)) h) + 1).toNatClampNeg))) h).toNatClampNeg)) = (-2) → (vp_in (FX3_lockIn_oc1 (FX3_slotOf a0 (h 3 (((FX5_firstPart_n a0 (h 28 (a0.toNatClampNeg)) h) + 1).toNatClampNeg))) h) 12 ∧ (((h 33 ((FX3_lockIn_oc1 (FX3_slotOf a0 (h 3 (((FX5_firstPart_n a0 (h 28 (a0.toNatClampNeg)) h) + 1).toNatClampNeg))) h).toNatClampNeg)) = a0 → (PX3_canGo_oc1_137  h)) ∧ (¬ (h 33 ((FX3_lockIn_oc1 (FX3_slotOf a0 (h 3 (((FX5_firstPart_n a0 (h 28 (a0.toNatClampNeg)) h) + 1).toNatClampNeg))) h).toNatClampNeg)) = a0 → (True))))))))))))) ∧ (¬ (h 3 ((FX5_firstPart_n a0 (h 28 (a0.toNatClampNeg)) h).toNatClampNeg)) = 12 → (True)))))))))) ∧ (¬ (FX3_hasEnded_oc1 a0 h) = 0 → (True)))))))))
set_option maxRecDepth 100000 in
set_option maxHeartbeats 4000000 in
theorem tX3_canGo_oc1 {X : fj_X} {Y : fj_Y} {l0 : Launch} {ad : Nat → Nat} {n : Nat} {S : ph_S} (W : WS 1 n S) (C : FC X Y l0 cX3_canGo 4 RX3 ({ frames := 2, cells := 0, slots := 0, locals := 43 } : Room) 0 0 (some .boolean)) (a0 : Int32) (h : ph_H) (hP : PX3_canGo_oc1 a0 h) (hR : RETq X Y ad n S h cX3_canGo (FX3_canGo_oc1 a0 h)) : FJ X Y ad n S h 0 [(0, .ref (ad 25)), (1, .int a0)] [] := by
  unfold PX3_canGo_oc1 at hP
  unfold FX3_canGo_oc1 at hR
  refine j_aload_n C dX3_canGo_0 rfl rfl ?_
  refine gCRX3_21 C dX3_canGo_1 (W.lt 25 (by decide)) (sh_25 W) rfl ?_
  refine j_iload_n C dX3_canGo_4 rfl rfl ?_
  obtain ⟨p3, hP⟩ := hP
  refine j_iald (k := 29) (v := (h 29 (a0.toNatClampNeg))) C dX3_canGo_5 (W.lt 29 (by decide)) (sh_29 W) p3 rfl ?_
  refine j_if_eq (tgt := 27) C dX3_canGo_6 (by decide) (fun c0 => ?_) (fun c0 => ?_)
  · have hP := hP.1 c0
    rw [if_pos c0] at hR
    refine j_iconst (v := 0) C dX3_canGo_27 (by decide) ?_
    exact hR bo_0 _ _ dX3_canGo_28
  · have hP := hP.2 c0
    rw [if_neg c0] at hR
    refine j_aload_n C dX3_canGo_9 rfl rfl ?_
    refine gCRX3_21 C dX3_canGo_10 (W.lt 25 (by decide)) (sh_25 W) rfl ?_
    refine j_iload_n C dX3_canGo_13 rfl rfl ?_
    obtain ⟨p3, hP⟩ := hP
    refine j_iald (k := 29) (v := (h 29 (a0.toNatClampNeg))) C dX3_canGo_14 (W.lt 29 (by decide)) (sh_29 W) p3 rfl ?_
    refine j_iconst (v := 2) C dX3_canGo_15 (by decide) ?_
    refine j_icmp_eq (tgt := 27) C dX3_canGo_16 (by decide) (fun c1 => ?_) (fun c1 => ?_)
    · have hP := hP.1 c1
      rw [if_pos c1] at hR
      refine j_iconst (v := 0) C dX3_canGo_27 (by decide) ?_
      exact hR bo_0 _ _ dX3_canGo_28
    · have hP := hP.2 c1
      rw [if_neg c1] at hR
      refine j_aload_n C dX3_canGo_19 rfl rfl ?_
      refine j_iload_n C dX3_canGo_20 rfl rfl ?_
      obtain ⟨p2, hP⟩ := hP
      refine j_callV C (MX3_hasEnded_oc1 W a0 h p2) dX3_canGo_21 (CKX3_hasEnded (by decide)) ⟨rfl, rfl⟩ lk_RX3_74 in_X3_hasEnded se_X3_hasEnded (W.lt 25 (by decide)) (sh_25 W) rfl rfl (Nat.le_of_ble_eq_true rfl) ?_
      intro r S' h' hq
      obtain ⟨e1, hh, e3, hb4⟩ := hq
      rw [e1, hh, e3]
      refine j_if_eq (tgt := 29) C dX3_canGo_24 (by decide) (fun c2 => ?_) (fun c2 => ?_)
      · have hP := hP.1 c2
        rw [if_pos c2] at hR
        refine j_aload_n C dX3_canGo_29 rfl rfl ?_
        refine gCRX3_21 C dX3_canGo_30 (W.lt 25 (by decide)) (sh_25 W) rfl ?_
        refine j_iload_n C dX3_canGo_33 rfl rfl ?_
        obtain ⟨p3, hP⟩ := hP
        refine j_iald (k := 29) (v := (h 29 (a0.toNatClampNeg))) C dX3_canGo_34 (W.lt 29 (by decide)) (sh_29 W) p3 rfl ?_
        refine j_iconst (v := 3) C dX3_canGo_35 (by decide) ?_
        refine j_icmp_ne (tgt := 61) C dX3_canGo_36 (by decide) (fun c3 => ?_) (fun c3 => ?_)
        · have hP := hP.2 c3
          rw [if_neg c3] at hR
          refine j_aload_n C dX3_canGo_61 rfl rfl ?_
          refine gCRX3_39 C dX3_canGo_62 (W.lt 25 (by decide)) (sh_25 W) rfl ?_
          refine j_iload_n C dX3_canGo_65 rfl rfl ?_
          refine j_aload_n C dX3_canGo_66 rfl rfl ?_
          refine gCRX3_18 C dX3_canGo_67 (W.lt 25 (by decide)) (sh_25 W) rfl ?_
          refine j_iload_n C dX3_canGo_70 rfl rfl ?_
          obtain ⟨p6, hP⟩ := hP
          refine j_iald (k := 28) (v := (h 28 (a0.toNatClampNeg))) C dX3_canGo_71 (W.lt 28 (by decide)) (sh_28 W) p6 rfl ?_
          obtain ⟨p8, hP⟩ := hP
          refine j_callV C (MX5_firstPart_n W a0 (h 28 (a0.toNatClampNeg)) h p8) dX3_canGo_72 (CKX5_firstPart (by decide)) ⟨rfl, rfl⟩ lk_RX3_78 in_X5_firstPart se_X5_firstPart (W.lt 1 (by decide)) (sh_1 W) rfl rfl (Nat.le_of_ble_eq_true rfl) ?_
          intro r S' h' hq
          obtain ⟨e1, hh, e3⟩ := hq
          rw [e1, hh, e3]
          refine j_istore_n C dX3_canGo_75 rfl (by decide) rfl ?_
          refine j_aload_n C dX3_canGo_76 rfl rfl ?_
          refine gCRX3_39 C dX3_canGo_77 (W.lt 25 (by decide)) (sh_25 W) rfl ?_
          refine gCRX3_82 C dX3_canGo_80 (W.lt 1 (by decide)) (sh_1 W) rfl ?_
          refine j_iload_n C dX3_canGo_83 rfl rfl ?_
          obtain ⟨p18, hP⟩ := hP
          refine j_iald (k := 3) (v := (h 3 ((FX5_firstPart_n a0 (h 28 (a0.toNatClampNeg)) h).toNatClampNeg))) C dX3_canGo_84 (W.lt 3 (by decide)) (sh_3 W) p18 rfl ?_
          refine j_bipush (v := 12) C dX3_canGo_85 (by decide) ?_
          refine j_icmp_eq (tgt := 92) C dX3_canGo_87 (by decide) (fun c4 => ?_) (fun c4 => ?_)
          · have hP := hP.1 c4
            rw [if_pos c4] at hR
            refine j_aload_n C dX3_canGo_92 rfl rfl ?_
            refine j_iload_n C dX3_canGo_93 rfl rfl ?_
            refine j_aload_n C dX3_canGo_94 rfl rfl ?_
            refine gCRX3_39 C dX3_canGo_95 (W.lt 25 (by decide)) (sh_25 W) rfl ?_
            refine gCRX3_82 C dX3_canGo_98 (W.lt 1 (by decide)) (sh_1 W) rfl ?_
            refine j_iload_n C dX3_canGo_101 rfl rfl ?_
            refine j_iconst (v := 1) C dX3_canGo_102 (by decide) ?_
            refine j_iadd C dX3_canGo_103 ?_
            obtain ⟨p8, hP⟩ := hP
            refine j_iald (k := 3) (v := (h 3 (((FX5_firstPart_n a0 (h 28 (a0.toNatClampNeg)) h) + 1).toNatClampNeg))) C dX3_canGo_104 (W.lt 3 (by decide)) (sh_3 W) p8 rfl ?_
            obtain ⟨p10, hP⟩ := hP
            refine j_callS C (MX3_slotOf W a0 (h 3 (((FX5_firstPart_n a0 (h 28 (a0.toNatClampNeg)) h) + 1).toNatClampNeg)) h p10) dX3_canGo_105 (CKX3_slotOf (by decide)) ⟨rfl, rfl⟩ lk_RX3_85 st_X3_slotOf rfl (Nat.le_of_ble_eq_true rfl) ?_
            intro r S' h' hq
            obtain ⟨e1, hh, e3⟩ := hq
            rw [e1, hh, e3]
            obtain ⟨p15, hP⟩ := hP
            refine j_callV C (MX3_lockIn_oc1 W (FX3_slotOf a0 (h 3 (((FX5_firstPart_n a0 (h 28 (a0.toNatClampNeg)) h) + 1).toNatClampNeg))) h p15) dX3_canGo_108 (CKX3_lockIn (by decide)) ⟨rfl, rfl⟩ lk_RX3_88 in_X3_lockIn se_X3_lockIn (W.lt 25 (by decide)) (sh_25 W) rfl rfl (Nat.le_of_ble_eq_true rfl) ?_
            intro r S' h' hq
            obtain ⟨e1, hh, e3⟩ := hq
            rw [e1, hh, e3]
            refine j_istore_n C dX3_canGo_111 rfl (by decide) rfl ?_
            refine j_iload_n C dX3_canGo_112 rfl rfl ?_
            refine j_if_lt (tgt := 137) C dX3_canGo_113 (by decide) (fun c5 => ?_) (fun c5 => ?_)
            · have hP := hP.1 c5
              rw [if_pos c5] at hR
              exact j_vl (tX3_canGo_oc1_137 W C h  hP hR) trivial
            · have hP := hP.2 c5
              rw [if_neg c5] at hR
              refine j_aload_n C dX3_canGo_116 rfl rfl ?_
              refine gCRX3_33 C dX3_canGo_117 (W.lt 25 (by decide)) (sh_25 W) rfl ?_
              refine j_iload_n C dX3_canGo_120 rfl rfl ?_
              obtain ⟨p3, hP⟩ := hP
              refine j_iald (k := 33) (v := (h 33 ((FX3_lockIn_oc1 (FX3_slotOf a0 (h 3 (((FX5_firstPart_n a0 (h 28 (a0.toNatClampNeg)) h) + 1).toNatClampNeg))) h).toNatClampNeg))) C dX3_canGo_121 (W.lt 33 (by decide)) (sh_33 W) p3 rfl ?_
              refine j_bipush (v := (-2)) C dX3_canGo_122 (by decide) ?_
              refine j_icmp_eq (tgt := 137) C dX3_canGo_124 (by decide) (fun c6 => ?_) (fun c6 => ?_)
              · have hP := hP.1 c6
                rw [if_pos c6] at hR
                exact j_vl (tX3_canGo_oc1_137 W C h  hP hR) trivial
              · have hP := hP.2 c6
                rw [if_neg c6] at hR
                refine j_aload_n C dX3_canGo_127 rfl rfl ?_
                refine gCRX3_33 C dX3_canGo_128 (W.lt 25 (by decide)) (sh_25 W) rfl ?_
                refine j_iload_n C dX3_canGo_131 rfl rfl ?_
                obtain ⟨p3, hP⟩ := hP
                refine j_iald (k := 33) (v := (h 33 ((FX3_lockIn_oc1 (FX3_slotOf a0 (h 3 (((FX5_firstPart_n a0 (h 28 (a0.toNatClampNeg)) h) + 1).toNatClampNeg))) h).toNatClampNeg))) C dX3_canGo_132 (W.lt 33 (by decide)) (sh_33 W) p3 rfl ?_
                refine j_iload_n C dX3_canGo_133 rfl rfl ?_
                refine j_icmp_ne (tgt := 141) C dX3_canGo_134 (by decide) (fun c7 => ?_) (fun c7 => ?_)
                · have hP := hP.2 c7
                  rw [if_neg c7] at hR
                  refine j_iconst (v := 0) C dX3_canGo_141 (by decide) ?_
                  exact hR bo_0 _ _ dX3_canGo_142
                · have hP := hP.1 c7
                  rw [if_pos c7] at hR
                  exact j_vl (tX3_canGo_oc1_137 W C h  hP hR) trivial
          · have hP := hP.2 c4
            rw [if_neg c4] at hR
            refine j_iconst (v := 1) C dX3_canGo_90 (by decide) ?_
            exact hR bo_1 _ _ dX3_canGo_91
        · have hP := hP.1 c3
          rw [if_pos c3] at hR
          refine j_aload_n C dX3_canGo_39 rfl rfl ?_
          refine gCRX3_33 C dX3_canGo_40 (W.lt 25 (by decide)) (sh_25 W) rfl ?_
          refine j_aload_n C dX3_canGo_43 rfl rfl ?_
          refine gCRX3_24 C dX3_canGo_44 (W.lt 25 (by decide)) (sh_25 W) rfl ?_
          refine j_iload_n C dX3_canGo_47 rfl rfl ?_
          obtain ⟨p5, hP⟩ := hP
          refine j_iald (k := 30) (v := (h 30 (a0.toNatClampNeg))) C dX3_canGo_48 (W.lt 30 (by decide)) (sh_30 W) p5 rfl ?_
          obtain ⟨p7, hP⟩ := hP
          refine j_iald (k := 33) (v := (h 33 ((h 30 (a0.toNatClampNeg)).toNatClampNeg))) C dX3_canGo_49 (W.lt 33 (by decide)) (sh_33 W) p7 rfl ?_
          refine j_bipush (v := (-2)) C dX3_canGo_50 (by decide) ?_
          refine j_icmp_ne (tgt := 59) C dX3_canGo_52 (by decide) (fun c4 => ?_) (fun c4 => ?_)
          · have hP := hP.2 c4
            rw [if_neg c4] at hR
            refine j_iconst (v := 0) C dX3_canGo_59 (by decide) ?_
            exact hR bo_0 _ _ dX3_canGo_60
          · have hP := hP.1 c4
            rw [if_pos c4] at hR
            refine j_iconst (v := 1) C dX3_canGo_55 (by decide) ?_
            refine j_goto (tgt := 60) C dX3_canGo_56 (by decide) ?_
            exact hR bo_1 _ _ dX3_canGo_60
      · have hP := hP.2 c2
        rw [if_neg c2] at hR
        refine j_iconst (v := 0) C dX3_canGo_27 (by decide) ?_
        exact hR bo_0 _ _ dX3_canGo_28
theorem MX3_canGo_oc1 {l0 : Launch} {Y : fj_Y} {ad : Nat → Nat} {n : Nat} {S : ph_S} (W : WS 1 n S) (a0 : Int32) (h : ph_H) (hP : PX3_canGo_oc1 a0 h) : MI l0 yX3_canGo cX3_canGo 4 (some .boolean) ({ frames := 2, cells := 0, slots := 0, locals := 43 } : Room) Y ad n S h [.ref (ad 25), .int a0] (fun r S' h' => S' = S ∧ h' = h ∧ r = FX3_canGo_oc1 a0 h ∧ bo r) := met_i (by decide) (Nat.le_of_ble_eq_true rfl) (fun _ _ _ q => bo_n q.2.2.2) (fun X C K => j_vl (tX3_canGo_oc1 W C a0 h hP (fun b pc lv hd => K _ _ _ ⟨rfl, rfl, rfl, b⟩ pc lv hd)) ⟨rfl, rfl, trivial⟩)

-- X3_hold_oc1
def FX3_hold_oc1 (a0 : Int32) (a1 : Int32) (a2 : Int32) (h : ph_H) : Int32 × ph_H := (0, (hs (hs h 26 a0.toNatClampNeg a1) 27 a0.toNatClampNeg a2))
def PX3_hold_oc1 (a0 : Int32) (a1 : Int32) (a2 : Int32) (h : ph_H) : Prop := vp_in a0 28 ∧ (vp_in a0 28 ∧ (True))
set_option maxRecDepth 100000 in
set_option maxHeartbeats 4000000 in
theorem tX3_hold_oc1 {X : fj_X} {Y : fj_Y} {l0 : Launch} {ad : Nat → Nat} {n : Nat} {S : ph_S} (W : WS 1 n S) (C : FC X Y l0 cX3_hold 4 RX3 ({ frames := 0, cells := 0, slots := 0, locals := 0 } : Room) 0 0 (some .int)) (a0 : Int32) (a1 : Int32) (a2 : Int32) (h : ph_H) (hP : PX3_hold_oc1 a0 a1 a2 h) (hR : RETi X Y ad n S cX3_hold (FX3_hold_oc1 a0 a1 a2 h)) : FJ X Y ad n S h 0 [(0, .ref (ad 25)), (1, .int a0), (2, .int a1), (3, .int a2)] [] := by
  unfold PX3_hold_oc1 at hP
  unfold FX3_hold_oc1 at hR
  refine j_aload_n C dX3_hold_0 rfl rfl ?_
  refine gCRX3_9 C dX3_hold_1 (W.lt 25 (by decide)) (sh_25 W) rfl ?_
  refine j_iload_n C dX3_hold_4 rfl rfl ?_
  refine j_iload_n C dX3_hold_5 rfl rfl ?_
  obtain ⟨p4, hP⟩ := hP
  refine j_iast (k := 26) C dX3_hold_6 (W.lt 26 (by decide)) (sh_26 W) p4 ?_
  refine j_aload_n C dX3_hold_7 rfl rfl ?_
  refine gCRX3_15 C dX3_hold_8 (W.lt 25 (by decide)) (sh_25 W) rfl ?_
  refine j_iload_n C dX3_hold_11 rfl rfl ?_
  refine j_iload_n C dX3_hold_12 rfl rfl ?_
  obtain ⟨p10, hP⟩ := hP
  refine j_iast (k := 27) C dX3_hold_13 (W.lt 27 (by decide)) (sh_27 W) p10 ?_
  refine j_iconst (v := 0) C dX3_hold_14 (by decide) ?_
  exact RETi_u hR _ _ dX3_hold_15
theorem MX3_hold_oc1 {l0 : Launch} {Y : fj_Y} {ad : Nat → Nat} {n : Nat} {S : ph_S} (W : WS 1 n S) (a0 : Int32) (a1 : Int32) (a2 : Int32) (h : ph_H) (hP : PX3_hold_oc1 a0 a1 a2 h) : MI l0 yX3_hold cX3_hold 4 (some .int) ({ frames := 0, cells := 0, slots := 0, locals := 0 } : Room) Y ad n S h [.ref (ad 25), .int a0, .int a1, .int a2] (fun r S' h' => S' = S ∧ h' = (FX3_hold_oc1 a0 a1 a2 h).2 ∧ r = (FX3_hold_oc1 a0 a1 a2 h).1) := met_i (by decide) (Nat.le_of_ble_eq_true rfl) (fun _ _ _ _ => rfl) (fun X C K => j_vl (tX3_hold_oc1 W C a0 a1 a2 h hP (fun pc lv hd => K _ _ _ ⟨rfl, rfl, rfl⟩ pc lv hd)) ⟨rfl, rfl, rfl, rfl, trivial⟩)

-- X3_getCell_oc1
def FX3_getCell_oc1 (a0 : Int32) (a1 : Int32) (h : ph_H) : Int32 × ph_H := ((FX3_hold_oc1 a0 (h 26 (a1.toNatClampNeg)) (h 27 (a1.toNatClampNeg)) (hs h 25 14 a1)).1, (FX3_hold_oc1 a0 (h 26 (a1.toNatClampNeg)) (h 27 (a1.toNatClampNeg)) (hs h 25 14 a1)).2)
def PX3_getCell_oc1 (a0 : Int32) (a1 : Int32) (h : ph_H) : Prop := vp_in a1 28 ∧ (vp_in a1 28 ∧ ((PX3_hold_oc1 a0 (h 26 (a1.toNatClampNeg)) (h 27 (a1.toNatClampNeg)) (hs h 25 14 a1)) ∧ (True)))
set_option maxRecDepth 100000 in
set_option maxHeartbeats 4000000 in
theorem tX3_getCell_oc1 {X : fj_X} {Y : fj_Y} {l0 : Launch} {ad : Nat → Nat} {n : Nat} {S : ph_S} (W : WS 1 n S) (C : FC X Y l0 cX3_getCell 3 RX3 ({ frames := 1, cells := 0, slots := 0, locals := 23 } : Room) 0 0 (some .int)) (a0 : Int32) (a1 : Int32) (h : ph_H) (hP : PX3_getCell_oc1 a0 a1 h) (hR : RETi X Y ad n S cX3_getCell (FX3_getCell_oc1 a0 a1 h)) : FJ X Y ad n S h 0 [(0, .ref (ad 25)), (1, .int a0), (2, .int a1)] [] := by
  unfold PX3_getCell_oc1 at hP
  unfold FX3_getCell_oc1 at hR
  refine j_aload_n C dX3_getCell_0 rfl rfl ?_
  refine j_iload_n C dX3_getCell_1 rfl rfl ?_
  refine pCRX3_114 C dX3_getCell_2 (W.lt 25 (by decide)) (sh_25 W) rfl ?_
  refine j_aload_n C dX3_getCell_5 rfl rfl ?_
  refine j_iload_n C dX3_getCell_6 rfl rfl ?_
  refine j_aload_n C dX3_getCell_7 rfl rfl ?_
  refine gCRX3_9 C dX3_getCell_8 (W.lt 25 (by decide)) (sh_25 W) rfl ?_
  refine j_iload_n C dX3_getCell_11 rfl rfl ?_
  obtain ⟨p8, hP⟩ := hP
  refine j_iald (k := 26) (v := (h 26 (a1.toNatClampNeg))) C dX3_getCell_12 (W.lt 26 (by decide)) (sh_26 W) p8 (hz_k (by decide)) ?_
  refine j_aload_n C dX3_getCell_13 rfl rfl ?_
  refine gCRX3_15 C dX3_getCell_14 (W.lt 25 (by decide)) (sh_25 W) rfl ?_
  refine j_iload_n C dX3_getCell_17 rfl rfl ?_
  obtain ⟨p13, hP⟩ := hP
  refine j_iald (k := 27) (v := (h 27 (a1.toNatClampNeg))) C dX3_getCell_18 (W.lt 27 (by decide)) (sh_27 W) p13 (hz_k (by decide)) ?_
  obtain ⟨p15, hP⟩ := hP
  refine j_callV C (MX3_hold_oc1 W a0 (h 26 (a1.toNatClampNeg)) (h 27 (a1.toNatClampNeg)) (hs h 25 14 a1) p15) dX3_getCell_19 (CKX3_hold (by decide)) ⟨rfl, rfl⟩ lk_RX3_135 in_X3_hold se_X3_hold (W.lt 25 (by decide)) (sh_25 W) rfl rfl (Nat.le_of_ble_eq_true rfl) ?_
  intro r S' h' hq
  obtain ⟨e1, e2, e3⟩ := hq
  rw [e1, e2, e3]
  exact RETi_u hR _ _ dX3_getCell_22
theorem MX3_getCell_oc1 {l0 : Launch} {Y : fj_Y} {ad : Nat → Nat} {n : Nat} {S : ph_S} (W : WS 1 n S) (a0 : Int32) (a1 : Int32) (h : ph_H) (hP : PX3_getCell_oc1 a0 a1 h) : MI l0 yX3_getCell cX3_getCell 3 (some .int) ({ frames := 1, cells := 0, slots := 0, locals := 23 } : Room) Y ad n S h [.ref (ad 25), .int a0, .int a1] (fun r S' h' => S' = S ∧ h' = (FX3_getCell_oc1 a0 a1 h).2 ∧ r = (FX3_getCell_oc1 a0 a1 h).1) := met_i (by decide) (Nat.le_of_ble_eq_true rfl) (fun _ _ _ _ => rfl) (fun X C K => j_vl (tX3_getCell_oc1 W C a0 a1 h hP (fun pc lv hd => K _ _ _ ⟨rfl, rfl, rfl⟩ pc lv hd)) ⟨rfl, rfl, rfl, trivial⟩)

-- X3_goTo_oc1
def FX3_goTo_oc1 (a0 : Int32) (h : ph_H) : Int32 × ph_H := (0, (hs h 25 13 a0))
def PX3_goTo_oc1 (a0 : Int32) (h : ph_H) : Prop := True
set_option maxRecDepth 100000 in
set_option maxHeartbeats 4000000 in
theorem tX3_goTo_oc1 {X : fj_X} {Y : fj_Y} {l0 : Launch} {ad : Nat → Nat} {n : Nat} {S : ph_S} (W : WS 1 n S) (C : FC X Y l0 cX3_goTo 2 RX3 ({ frames := 0, cells := 0, slots := 0, locals := 0 } : Room) 0 0 (some .int)) (a0 : Int32) (h : ph_H) (hP : PX3_goTo_oc1 a0 h) (hR : RETi X Y ad n S cX3_goTo (FX3_goTo_oc1 a0 h)) : FJ X Y ad n S h 0 [(0, .ref (ad 25)), (1, .int a0)] [] := by
  unfold PX3_goTo_oc1 at hP
  unfold FX3_goTo_oc1 at hR
  refine j_aload_n C dX3_goTo_0 rfl rfl ?_
  refine j_iload_n C dX3_goTo_1 rfl rfl ?_
  refine pCRX3_126 C dX3_goTo_2 (W.lt 25 (by decide)) (sh_25 W) rfl ?_
  refine j_iconst (v := 0) C dX3_goTo_5 (by decide) ?_
  exact RETi_u hR _ _ dX3_goTo_6
theorem MX3_goTo_oc1 {l0 : Launch} {Y : fj_Y} {ad : Nat → Nat} {n : Nat} {S : ph_S} (W : WS 1 n S) (a0 : Int32) (h : ph_H) (hP : PX3_goTo_oc1 a0 h) : MI l0 yX3_goTo cX3_goTo 2 (some .int) ({ frames := 0, cells := 0, slots := 0, locals := 0 } : Room) Y ad n S h [.ref (ad 25), .int a0] (fun r S' h' => S' = S ∧ h' = (FX3_goTo_oc1 a0 h).2 ∧ r = (FX3_goTo_oc1 a0 h).1) := met_i (by decide) (Nat.le_of_ble_eq_true rfl) (fun _ _ _ _ => rfl) (fun X C K => j_vl (tX3_goTo_oc1 W C a0 h hP (fun pc lv hd => K _ _ _ ⟨rfl, rfl, rfl⟩ pc lv hd)) ⟨rfl, rfl, trivial⟩)

-- X3_goUnless_oc1
def FX3_goUnless_oc1_25  (s0 : Int32) (h : ph_H) : Int32 × ph_H := (s0, h)
def PX3_goUnless_oc1_25  (s0 : Int32) (h : ph_H) : Prop := True
set_option maxRecDepth 100000 in
set_option maxHeartbeats 4000000 in
theorem tX3_goUnless_oc1_25 {X : fj_X} {Y : fj_Y} {l0 : Launch} {ad : Nat → Nat} {n : Nat} {S : ph_S} (W : WS 1 n S) (C : FC X Y l0 cX3_goUnless 3 RX3 ({ frames := 1, cells := 0, slots := 0, locals := 21 } : Room) 0 0 (some .int)) (s0 : Int32) (h : ph_H) (hP : PX3_goUnless_oc1_25  s0 h) (hR : RETi X Y ad n S cX3_goUnless (FX3_goUnless_oc1_25  s0 h)) : FJ X Y ad n S h 25 [] [.int s0] := by
  unfold PX3_goUnless_oc1_25 at hP
  unfold FX3_goUnless_oc1_25 at hR
  refine j_goto (tgt := 29) C dX3_goUnless_25 (by decide) ?_
  exact RETi_u hR _ _ dX3_goUnless_29
def FX3_goUnless_oc1 (a0 : Int32) (a1 : Int32) (h : ph_H) : Int32 × ph_H := if (h 26 (a0.toNatClampNeg)) = 0 then (if (h 27 (a0.toNatClampNeg)) = 0 then (FX3_goUnless_oc1_25  ((FX3_goTo_oc1 a1 h).1) ((FX3_goTo_oc1 a1 h).2)) else ((0, h))) else ((1, h))
def PX3_goUnless_oc1 (a0 : Int32) (a1 : Int32) (h : ph_H) : Prop := vp_in a0 28 ∧ (((h 26 (a0.toNatClampNeg)) = 0 → (vp_in a0 28 ∧ (((h 27 (a0.toNatClampNeg)) = 0 → ((PX3_goTo_oc1 a1 h) ∧ (PX3_goUnless_oc1_25  ((FX3_goTo_oc1 a1 h).1) ((FX3_goTo_oc1 a1 h).2)))) ∧ (¬ (h 27 (a0.toNatClampNeg)) = 0 → (True))))) ∧ (¬ (h 26 (a0.toNatClampNeg)) = 0 → (True)))
set_option maxRecDepth 100000 in
set_option maxHeartbeats 4000000 in
theorem tX3_goUnless_oc1 {X : fj_X} {Y : fj_Y} {l0 : Launch} {ad : Nat → Nat} {n : Nat} {S : ph_S} (W : WS 1 n S) (C : FC X Y l0 cX3_goUnless 3 RX3 ({ frames := 1, cells := 0, slots := 0, locals := 21 } : Room) 0 0 (some .int)) (a0 : Int32) (a1 : Int32) (h : ph_H) (hP : PX3_goUnless_oc1 a0 a1 h) (hR : RETi X Y ad n S cX3_goUnless (FX3_goUnless_oc1 a0 a1 h)) : FJ X Y ad n S h 0 [(0, .ref (ad 25)), (1, .int a0), (2, .int a1)] [] := by
  unfold PX3_goUnless_oc1 at hP
  unfold FX3_goUnless_oc1 at hR
  refine j_aload_n C dX3_goUnless_0 rfl rfl ?_
  refine gCRX3_9 C dX3_goUnless_1 (W.lt 25 (by decide)) (sh_25 W) rfl ?_
  refine j_iload_n C dX3_goUnless_4 rfl rfl ?_
  obtain ⟨p3, hP⟩ := hP
  refine j_iald (k := 26) (v := (h 26 (a0.toNatClampNeg))) C dX3_goUnless_5 (W.lt 26 (by decide)) (sh_26 W) p3 rfl ?_
  refine j_if_eq (tgt := 11) C dX3_goUnless_6 (by decide) (fun c0 => ?_) (fun c0 => ?_)
  · have hP := hP.1 c0
    rw [if_pos c0] at hR
    refine j_aload_n C dX3_goUnless_11 rfl rfl ?_
    refine gCRX3_15 C dX3_goUnless_12 (W.lt 25 (by decide)) (sh_25 W) rfl ?_
    refine j_iload_n C dX3_goUnless_15 rfl rfl ?_
    obtain ⟨p3, hP⟩ := hP
    refine j_iald (k := 27) (v := (h 27 (a0.toNatClampNeg))) C dX3_goUnless_16 (W.lt 27 (by decide)) (sh_27 W) p3 rfl ?_
    refine j_if_ne (tgt := 28) C dX3_goUnless_17 (by decide) (fun c1 => ?_) (fun c1 => ?_)
    · have hP := hP.2 c1
      rw [if_neg c1] at hR
      refine j_iconst (v := 0) C dX3_goUnless_28 (by decide) ?_
      exact RETi_u hR _ _ dX3_goUnless_29
    · have hP := hP.1 c1
      rw [if_pos c1] at hR
      refine j_aload_n C dX3_goUnless_20 rfl rfl ?_
      refine j_iload_n C dX3_goUnless_21 rfl rfl ?_
      obtain ⟨p2, hP⟩ := hP
      refine j_callV C (MX3_goTo_oc1 W a1 h p2) dX3_goUnless_22 (CKX3_goTo (by decide)) ⟨rfl, rfl⟩ lk_RX3_153 in_X3_goTo se_X3_goTo (W.lt 25 (by decide)) (sh_25 W) rfl rfl (Nat.le_of_ble_eq_true rfl) ?_
      intro r S' h' hq
      obtain ⟨e1, e2, e3⟩ := hq
      rw [e1, e2, e3]
      exact j_vl (tX3_goUnless_oc1_25 W C  ((FX3_goTo_oc1 a1 h).1) ((FX3_goTo_oc1 a1 h).2) hP hR) trivial
  · have hP := hP.2 c0
    rw [if_neg c0] at hR
    refine j_iconst (v := 1) C dX3_goUnless_9 (by decide) ?_
    exact RETi_u hR _ _ dX3_goUnless_10
theorem MX3_goUnless_oc1 {l0 : Launch} {Y : fj_Y} {ad : Nat → Nat} {n : Nat} {S : ph_S} (W : WS 1 n S) (a0 : Int32) (a1 : Int32) (h : ph_H) (hP : PX3_goUnless_oc1 a0 a1 h) : MI l0 yX3_goUnless cX3_goUnless 3 (some .int) ({ frames := 1, cells := 0, slots := 0, locals := 21 } : Room) Y ad n S h [.ref (ad 25), .int a0, .int a1] (fun r S' h' => S' = S ∧ h' = (FX3_goUnless_oc1 a0 a1 h).2 ∧ r = (FX3_goUnless_oc1 a0 a1 h).1) := met_i (by decide) (Nat.le_of_ble_eq_true rfl) (fun _ _ _ _ => rfl) (fun X C K => j_vl (tX3_goUnless_oc1 W C a0 a1 h hP (fun pc lv hd => K _ _ _ ⟨rfl, rfl, rfl⟩ pc lv hd)) ⟨rfl, rfl, rfl, trivial⟩)

-- X3_free_oc1
def FX3_free_oc1 (a0 : Int32) (h : ph_H) : Int32 × ph_H := (0, (hs (hs (hs h 33 a0.toNatClampNeg (-2)) 25 16 2) 25 17 a0))
def PX3_free_oc1 (a0 : Int32) (h : ph_H) : Prop := vp_in a0 12 ∧ (True)
set_option maxRecDepth 100000 in
set_option maxHeartbeats 4000000 in
theorem tX3_free_oc1 {X : fj_X} {Y : fj_Y} {l0 : Launch} {ad : Nat → Nat} {n : Nat} {S : ph_S} (W : WS 1 n S) (C : FC X Y l0 cX3_free 2 RX3 ({ frames := 0, cells := 0, slots := 0, locals := 0 } : Room) 0 0 (some .int)) (a0 : Int32) (h : ph_H) (hP : PX3_free_oc1 a0 h) (hR : RETi X Y ad n S cX3_free (FX3_free_oc1 a0 h)) : FJ X Y ad n S h 0 [(0, .ref (ad 25)), (1, .int a0)] [] := by
  unfold PX3_free_oc1 at hP
  unfold FX3_free_oc1 at hR
  refine j_aload_n C dX3_free_0 rfl rfl ?_
  refine gCRX3_33 C dX3_free_1 (W.lt 25 (by decide)) (sh_25 W) rfl ?_
  refine j_iload_n C dX3_free_4 rfl rfl ?_
  refine j_bipush (v := (-2)) C dX3_free_5 (by decide) ?_
  obtain ⟨p4, hP⟩ := hP
  refine j_iast (k := 33) C dX3_free_7 (W.lt 33 (by decide)) (sh_33 W) p4 ?_
  refine j_aload_n C dX3_free_8 rfl rfl ?_
  refine j_iconst (v := 2) C dX3_free_9 (by decide) ?_
  refine pCRX3_120 C dX3_free_10 (W.lt 25 (by decide)) (sh_25 W) rfl ?_
  refine j_aload_n C dX3_free_13 rfl rfl ?_
  refine j_iload_n C dX3_free_14 rfl rfl ?_
  refine pCRX3_123 C dX3_free_15 (W.lt 25 (by decide)) (sh_25 W) rfl ?_
  refine j_iconst (v := 0) C dX3_free_18 (by decide) ?_
  exact RETi_u hR _ _ dX3_free_19
theorem MX3_free_oc1 {l0 : Launch} {Y : fj_Y} {ad : Nat → Nat} {n : Nat} {S : ph_S} (W : WS 1 n S) (a0 : Int32) (h : ph_H) (hP : PX3_free_oc1 a0 h) : MI l0 yX3_free cX3_free 2 (some .int) ({ frames := 0, cells := 0, slots := 0, locals := 0 } : Room) Y ad n S h [.ref (ad 25), .int a0] (fun r S' h' => S' = S ∧ h' = (FX3_free_oc1 a0 h).2 ∧ r = (FX3_free_oc1 a0 h).1) := met_i (by decide) (Nat.le_of_ble_eq_true rfl) (fun _ _ _ _ => rfl) (fun X C K => j_vl (tX3_free_oc1 W C a0 h hP (fun pc lv hd => K _ _ _ ⟨rfl, rfl, rfl⟩ pc lv hd)) ⟨rfl, rfl, trivial⟩)

-- X3_leaveLock_oc1
def FX3_leaveLock_oc1 (a0 : Int32) (a1 : Int32) (h : ph_H) : Int32 × ph_H := if 0 ≤ (FX3_lockIn_oc1 a1 h) then (if (h 33 ((FX3_lockIn_oc1 a1 h).toNatClampNeg)) = a0 then (((FX3_free_oc1 (FX3_lockIn_oc1 a1 h) h).1, (FX3_free_oc1 (FX3_lockIn_oc1 a1 h) h).2)) else ((6, h))) else ((1, h))
def PX3_leaveLock_oc1 (a0 : Int32) (a1 : Int32) (h : ph_H) : Prop := (PX3_lockIn_oc1 a1 h) ∧ ((0 ≤ (FX3_lockIn_oc1 a1 h) → (vp_in (FX3_lockIn_oc1 a1 h) 12 ∧ (((h 33 ((FX3_lockIn_oc1 a1 h).toNatClampNeg)) = a0 → ((PX3_free_oc1 (FX3_lockIn_oc1 a1 h) h) ∧ (True))) ∧ (¬ (h 33 ((FX3_lockIn_oc1 a1 h).toNatClampNeg)) = a0 → (True))))) ∧ (¬ 0 ≤ (FX3_lockIn_oc1 a1 h) → (True)))
set_option maxRecDepth 100000 in
set_option maxHeartbeats 4000000 in
theorem tX3_leaveLock_oc1 {X : fj_X} {Y : fj_Y} {l0 : Launch} {ad : Nat → Nat} {n : Nat} {S : ph_S} (W : WS 1 n S) (C : FC X Y l0 cX3_leaveLock 4 RX3 ({ frames := 1, cells := 0, slots := 0, locals := 21 } : Room) 0 0 (some .int)) (a0 : Int32) (a1 : Int32) (h : ph_H) (hP : PX3_leaveLock_oc1 a0 a1 h) (hR : RETi X Y ad n S cX3_leaveLock (FX3_leaveLock_oc1 a0 a1 h)) : FJ X Y ad n S h 0 [(0, .ref (ad 25)), (1, .int a0), (2, .int a1)] [] := by
  unfold PX3_leaveLock_oc1 at hP
  unfold FX3_leaveLock_oc1 at hR
  refine j_aload_n C dX3_leaveLock_0 rfl rfl ?_
  refine j_iload_n C dX3_leaveLock_1 rfl rfl ?_
  obtain ⟨p2, hP⟩ := hP
  refine j_callV C (MX3_lockIn_oc1 W a1 h p2) dX3_leaveLock_2 (CKX3_lockIn (by decide)) ⟨rfl, rfl⟩ lk_RX3_88 in_X3_lockIn se_X3_lockIn (W.lt 25 (by decide)) (sh_25 W) rfl rfl (Nat.le_of_ble_eq_true rfl) ?_
  intro r S' h' hq
  obtain ⟨e1, hh, e3⟩ := hq
  rw [e1, hh, e3]
  refine j_istore_n C dX3_leaveLock_5 rfl (by decide) rfl ?_
  refine j_iload_n C dX3_leaveLock_6 rfl rfl ?_
  refine j_if_ge (tgt := 12) C dX3_leaveLock_7 (by decide) (fun c0 => ?_) (fun c0 => ?_)
  · have hP := hP.1 c0
    rw [if_pos c0] at hR
    refine j_aload_n C dX3_leaveLock_12 rfl rfl ?_
    refine gCRX3_33 C dX3_leaveLock_13 (W.lt 25 (by decide)) (sh_25 W) rfl ?_
    refine j_iload_n C dX3_leaveLock_16 rfl rfl ?_
    obtain ⟨p3, hP⟩ := hP
    refine j_iald (k := 33) (v := (h 33 ((FX3_lockIn_oc1 a1 h).toNatClampNeg))) C dX3_leaveLock_17 (W.lt 33 (by decide)) (sh_33 W) p3 rfl ?_
    refine j_iload_n C dX3_leaveLock_18 rfl rfl ?_
    refine j_icmp_eq (tgt := 25) C dX3_leaveLock_19 (by decide) (fun c1 => ?_) (fun c1 => ?_)
    · have hP := hP.1 c1
      rw [if_pos c1] at hR
      refine j_aload_n C dX3_leaveLock_25 rfl rfl ?_
      refine j_iload_n C dX3_leaveLock_26 rfl rfl ?_
      obtain ⟨p2, hP⟩ := hP
      refine j_callV C (MX3_free_oc1 W (FX3_lockIn_oc1 a1 h) h p2) dX3_leaveLock_27 (CKX3_free (by decide)) ⟨rfl, rfl⟩ lk_RX3_202 in_X3_free se_X3_free (W.lt 25 (by decide)) (sh_25 W) rfl rfl (Nat.le_of_ble_eq_true rfl) ?_
      intro r S' h' hq
      obtain ⟨e1, e2, e3⟩ := hq
      rw [e1, e2, e3]
      exact RETi_u hR _ _ dX3_leaveLock_30
    · have hP := hP.2 c1
      rw [if_neg c1] at hR
      refine j_bipush (v := 6) C dX3_leaveLock_22 (by decide) ?_
      exact RETi_u hR _ _ dX3_leaveLock_24
  · have hP := hP.2 c0
    rw [if_neg c0] at hR
    refine j_iconst (v := 1) C dX3_leaveLock_10 (by decide) ?_
    exact RETi_u hR _ _ dX3_leaveLock_11
theorem MX3_leaveLock_oc1 {l0 : Launch} {Y : fj_Y} {ad : Nat → Nat} {n : Nat} {S : ph_S} (W : WS 1 n S) (a0 : Int32) (a1 : Int32) (h : ph_H) (hP : PX3_leaveLock_oc1 a0 a1 h) : MI l0 yX3_leaveLock cX3_leaveLock 4 (some .int) ({ frames := 1, cells := 0, slots := 0, locals := 21 } : Room) Y ad n S h [.ref (ad 25), .int a0, .int a1] (fun r S' h' => S' = S ∧ h' = (FX3_leaveLock_oc1 a0 a1 h).2 ∧ r = (FX3_leaveLock_oc1 a0 a1 h).1) := met_i (by decide) (Nat.le_of_ble_eq_true rfl) (fun _ _ _ _ => rfl) (fun X C K => j_vl (tX3_leaveLock_oc1 W C a0 a1 h hP (fun pc lv hd => K _ _ _ ⟨rfl, rfl, rfl⟩ pc lv hd)) ⟨rfl, rfl, rfl, trivial⟩)

-- X3_gateIn_oc1
def FX3_gateIn_oc1 (a0 : Int32) (h : ph_H) : Int32 := if (h 26 (a0.toNatClampNeg)) = 3 then ((h 27 (a0.toNatClampNeg))) else ((-1))
def PX3_gateIn_oc1 (a0 : Int32) (h : ph_H) : Prop := vp_in a0 28 ∧ (((h 26 (a0.toNatClampNeg)) = 3 → (vp_in a0 28 ∧ (True))) ∧ (¬ (h 26 (a0.toNatClampNeg)) = 3 → (True)))
set_option maxRecDepth 100000 in
set_option maxHeartbeats 4000000 in
theorem tX3_gateIn_oc1 {X : fj_X} {Y : fj_Y} {l0 : Launch} {ad : Nat → Nat} {n : Nat} {S : ph_S} (W : WS 1 n S) (C : FC X Y l0 cX3_gateIn 2 RX3 ({ frames := 0, cells := 0, slots := 0, locals := 0 } : Room) 0 0 (some .int)) (a0 : Int32) (h : ph_H) (hP : PX3_gateIn_oc1 a0 h) (hR : RETp X Y ad n S h cX3_gateIn (FX3_gateIn_oc1 a0 h)) : FJ X Y ad n S h 0 [(0, .ref (ad 25)), (1, .int a0)] [] := by
  unfold PX3_gateIn_oc1 at hP
  unfold FX3_gateIn_oc1 at hR
  refine j_aload_n C dX3_gateIn_0 rfl rfl ?_
  refine gCRX3_9 C dX3_gateIn_1 (W.lt 25 (by decide)) (sh_25 W) rfl ?_
  refine j_iload_n C dX3_gateIn_4 rfl rfl ?_
  obtain ⟨p3, hP⟩ := hP
  refine j_iald (k := 26) (v := (h 26 (a0.toNatClampNeg))) C dX3_gateIn_5 (W.lt 26 (by decide)) (sh_26 W) p3 rfl ?_
  refine j_iconst (v := 3) C dX3_gateIn_6 (by decide) ?_
  refine j_icmp_ne (tgt := 19) C dX3_gateIn_7 (by decide) (fun c0 => ?_) (fun c0 => ?_)
  · have hP := hP.2 c0
    rw [if_neg c0] at hR
    refine j_iconst (v := (-1)) C dX3_gateIn_19 (by decide) ?_
    exact hR _ _ dX3_gateIn_20
  · have hP := hP.1 c0
    rw [if_pos c0] at hR
    refine j_aload_n C dX3_gateIn_10 rfl rfl ?_
    refine gCRX3_15 C dX3_gateIn_11 (W.lt 25 (by decide)) (sh_25 W) rfl ?_
    refine j_iload_n C dX3_gateIn_14 rfl rfl ?_
    obtain ⟨p3, hP⟩ := hP
    refine j_iald (k := 27) (v := (h 27 (a0.toNatClampNeg))) C dX3_gateIn_15 (W.lt 27 (by decide)) (sh_27 W) p3 rfl ?_
    refine j_goto (tgt := 20) C dX3_gateIn_16 (by decide) ?_
    exact hR _ _ dX3_gateIn_20
theorem MX3_gateIn_oc1 {l0 : Launch} {Y : fj_Y} {ad : Nat → Nat} {n : Nat} {S : ph_S} (W : WS 1 n S) (a0 : Int32) (h : ph_H) (hP : PX3_gateIn_oc1 a0 h) : MI l0 yX3_gateIn cX3_gateIn 2 (some .int) ({ frames := 0, cells := 0, slots := 0, locals := 0 } : Room) Y ad n S h [.ref (ad 25), .int a0] (fun r S' h' => S' = S ∧ h' = h ∧ r = FX3_gateIn_oc1 a0 h) := met_i (by decide) (Nat.le_of_ble_eq_true rfl) (fun _ _ _ _ => rfl) (fun X C K => j_vl (tX3_gateIn_oc1 W C a0 h hP (fun pc lv hd => K _ _ _ ⟨rfl, rfl, rfl⟩ pc lv hd)) ⟨rfl, rfl, trivial⟩)

-- X3_lieDown_oc1
def FX3_lieDown_oc1 (a0 : Int32) (a1 : Int32) (h : ph_H) : Int32 × ph_H := if 0 ≤ (FX3_gateIn_oc1 a1 h) then (if (h 33 ((FX3_gateIn_oc1 a1 h).toNatClampNeg)) = a0 then (((FX3_free_oc1 (FX3_gateIn_oc1 a1 h) (hs (hs (hs h 29 a0.toNatClampNeg 2) 30 a0.toNatClampNeg (FX3_gateIn_oc1 a1 h)) 25 13 (h 28 (a0.toNatClampNeg)))).1, (FX3_free_oc1 (FX3_gateIn_oc1 a1 h) (hs (hs (hs h 29 a0.toNatClampNeg 2) 30 a0.toNatClampNeg (FX3_gateIn_oc1 a1 h)) 25 13 (h 28 (a0.toNatClampNeg)))).2)) else ((6, h))) else ((1, h))
def PX3_lieDown_oc1 (a0 : Int32) (a1 : Int32) (h : ph_H) : Prop := (PX3_gateIn_oc1 a1 h) ∧ ((0 ≤ (FX3_gateIn_oc1 a1 h) → (vp_in (FX3_gateIn_oc1 a1 h) 12 ∧ (((h 33 ((FX3_gateIn_oc1 a1 h).toNatClampNeg)) = a0 → (vp_in a0 4 ∧ (vp_in a0 4 ∧ (vp_in a0 4 ∧ ((PX3_free_oc1 (FX3_gateIn_oc1 a1 h) (hs (hs (hs h 29 a0.toNatClampNeg 2) 30 a0.toNatClampNeg (FX3_gateIn_oc1 a1 h)) 25 13 (h 28 (a0.toNatClampNeg)))) ∧ (True)))))) ∧ (¬ (h 33 ((FX3_gateIn_oc1 a1 h).toNatClampNeg)) = a0 → (True))))) ∧ (¬ 0 ≤ (FX3_gateIn_oc1 a1 h) → (True)))
set_option maxRecDepth 100000 in
set_option maxHeartbeats 4000000 in
theorem tX3_lieDown_oc1 {X : fj_X} {Y : fj_Y} {l0 : Launch} {ad : Nat → Nat} {n : Nat} {S : ph_S} (W : WS 1 n S) (C : FC X Y l0 cX3_lieDown 4 RX3 ({ frames := 1, cells := 0, slots := 0, locals := 21 } : Room) 0 0 (some .int)) (a0 : Int32) (a1 : Int32) (h : ph_H) (hP : PX3_lieDown_oc1 a0 a1 h) (hR : RETi X Y ad n S cX3_lieDown (FX3_lieDown_oc1 a0 a1 h)) : FJ X Y ad n S h 0 [(0, .ref (ad 25)), (1, .int a0), (2, .int a1)] [] := by
  unfold PX3_lieDown_oc1 at hP
  unfold FX3_lieDown_oc1 at hR
  refine j_aload_n C dX3_lieDown_0 rfl rfl ?_
  refine j_iload_n C dX3_lieDown_1 rfl rfl ?_
  obtain ⟨p2, hP⟩ := hP
  refine j_callV C (MX3_gateIn_oc1 W a1 h p2) dX3_lieDown_2 (CKX3_gateIn (by decide)) ⟨rfl, rfl⟩ lk_RX3_205 in_X3_gateIn se_X3_gateIn (W.lt 25 (by decide)) (sh_25 W) rfl rfl (Nat.le_of_ble_eq_true rfl) ?_
  intro r S' h' hq
  obtain ⟨e1, hh, e3⟩ := hq
  rw [e1, hh, e3]
  refine j_istore_n C dX3_lieDown_5 rfl (by decide) rfl ?_
  refine j_iload_n C dX3_lieDown_6 rfl rfl ?_
  refine j_if_ge (tgt := 12) C dX3_lieDown_7 (by decide) (fun c0 => ?_) (fun c0 => ?_)
  · have hP := hP.1 c0
    rw [if_pos c0] at hR
    refine j_aload_n C dX3_lieDown_12 rfl rfl ?_
    refine gCRX3_33 C dX3_lieDown_13 (W.lt 25 (by decide)) (sh_25 W) rfl ?_
    refine j_iload_n C dX3_lieDown_16 rfl rfl ?_
    obtain ⟨p3, hP⟩ := hP
    refine j_iald (k := 33) (v := (h 33 ((FX3_gateIn_oc1 a1 h).toNatClampNeg))) C dX3_lieDown_17 (W.lt 33 (by decide)) (sh_33 W) p3 rfl ?_
    refine j_iload_n C dX3_lieDown_18 rfl rfl ?_
    refine j_icmp_eq (tgt := 25) C dX3_lieDown_19 (by decide) (fun c1 => ?_) (fun c1 => ?_)
    · have hP := hP.1 c1
      rw [if_pos c1] at hR
      refine j_aload_n C dX3_lieDown_25 rfl rfl ?_
      refine gCRX3_21 C dX3_lieDown_26 (W.lt 25 (by decide)) (sh_25 W) rfl ?_
      refine j_iload_n C dX3_lieDown_29 rfl rfl ?_
      refine j_iconst (v := 2) C dX3_lieDown_30 (by decide) ?_
      obtain ⟨p4, hP⟩ := hP
      refine j_iast (k := 29) C dX3_lieDown_31 (W.lt 29 (by decide)) (sh_29 W) p4 ?_
      refine j_aload_n C dX3_lieDown_32 rfl rfl ?_
      refine gCRX3_24 C dX3_lieDown_33 (W.lt 25 (by decide)) (sh_25 W) rfl ?_
      refine j_iload_n C dX3_lieDown_36 rfl rfl ?_
      refine j_iload_n C dX3_lieDown_37 rfl rfl ?_
      obtain ⟨p10, hP⟩ := hP
      refine j_iast (k := 30) C dX3_lieDown_38 (W.lt 30 (by decide)) (sh_30 W) p10 ?_
      refine j_aload_n C dX3_lieDown_39 rfl rfl ?_
      refine j_aload_n C dX3_lieDown_40 rfl rfl ?_
      refine gCRX3_18 C dX3_lieDown_41 (W.lt 25 (by decide)) (sh_25 W) rfl ?_
      refine j_iload_n C dX3_lieDown_44 rfl rfl ?_
      obtain ⟨p16, hP⟩ := hP
      refine j_iald (k := 28) (v := (h 28 (a0.toNatClampNeg))) C dX3_lieDown_45 (W.lt 28 (by decide)) (sh_28 W) p16 ((hz_k (by decide)).trans (hz_k (by decide))) ?_
      refine pCRX3_126 C dX3_lieDown_46 (W.lt 25 (by decide)) (sh_25 W) rfl ?_
      refine j_aload_n C dX3_lieDown_49 rfl rfl ?_
      refine j_iload_n C dX3_lieDown_50 rfl rfl ?_
      obtain ⟨p21, hP⟩ := hP
      refine j_callV C (MX3_free_oc1 W (FX3_gateIn_oc1 a1 h) (hs (hs (hs h 29 a0.toNatClampNeg 2) 30 a0.toNatClampNeg (FX3_gateIn_oc1 a1 h)) 25 13 (h 28 (a0.toNatClampNeg))) p21) dX3_lieDown_51 (CKX3_free (by decide)) ⟨rfl, rfl⟩ lk_RX3_202 in_X3_free se_X3_free (W.lt 25 (by decide)) (sh_25 W) rfl rfl (Nat.le_of_ble_eq_true rfl) ?_
      intro r S' h' hq
      obtain ⟨e1, e2, e3⟩ := hq
      rw [e1, e2, e3]
      exact RETi_u hR _ _ dX3_lieDown_54
    · have hP := hP.2 c1
      rw [if_neg c1] at hR
      refine j_bipush (v := 6) C dX3_lieDown_22 (by decide) ?_
      exact RETi_u hR _ _ dX3_lieDown_24
  · have hP := hP.2 c0
    rw [if_neg c0] at hR
    refine j_iconst (v := 1) C dX3_lieDown_10 (by decide) ?_
    exact RETi_u hR _ _ dX3_lieDown_11
theorem MX3_lieDown_oc1 {l0 : Launch} {Y : fj_Y} {ad : Nat → Nat} {n : Nat} {S : ph_S} (W : WS 1 n S) (a0 : Int32) (a1 : Int32) (h : ph_H) (hP : PX3_lieDown_oc1 a0 a1 h) : MI l0 yX3_lieDown cX3_lieDown 4 (some .int) ({ frames := 1, cells := 0, slots := 0, locals := 21 } : Room) Y ad n S h [.ref (ad 25), .int a0, .int a1] (fun r S' h' => S' = S ∧ h' = (FX3_lieDown_oc1 a0 a1 h).2 ∧ r = (FX3_lieDown_oc1 a0 a1 h).1) := met_i (by decide) (Nat.le_of_ble_eq_true rfl) (fun _ _ _ _ => rfl) (fun X C K => j_vl (tX3_lieDown_oc1 W C a0 a1 h hP (fun pc lv hd => K _ _ _ ⟨rfl, rfl, rfl⟩ pc lv hd)) ⟨rfl, rfl, rfl, trivial⟩)

-- X3_makeThing_oc1
def FX3_makeThing_oc1 (a0 : Int32) (a1 : Int32) (a2 : Int32) (h : ph_H) : Int32 × ph_H := (0, (hs (hs (hs (hs (hs (hs h 25 10 ((h 25 10) + 1)) 31 (h 25 10).toNatClampNeg a1) 32 (h 25 10).toNatClampNeg a2) 33 (h 25 10).toNatClampNeg (-2)) 26 a0.toNatClampNeg a1) 27 a0.toNatClampNeg (h 25 10)))
def PX3_makeThing_oc1 (a0 : Int32) (a1 : Int32) (a2 : Int32) (h : ph_H) : Prop := vp_in (h 25 10) 12 ∧ (vp_in (h 25 10) 12 ∧ (vp_in (h 25 10) 12 ∧ (vp_in a0 28 ∧ (vp_in a0 28 ∧ (True)))))
set_option maxRecDepth 100000 in
set_option maxHeartbeats 4000000 in
theorem tX3_makeThing_oc1 {X : fj_X} {Y : fj_Y} {l0 : Launch} {ad : Nat → Nat} {n : Nat} {S : ph_S} (W : WS 1 n S) (C : FC X Y l0 cX3_makeThing 5 RX3 ({ frames := 0, cells := 0, slots := 0, locals := 0 } : Room) 0 0 (some .int)) (a0 : Int32) (a1 : Int32) (a2 : Int32) (h : ph_H) (hP : PX3_makeThing_oc1 a0 a1 a2 h) (hR : RETi X Y ad n S cX3_makeThing (FX3_makeThing_oc1 a0 a1 a2 h)) : FJ X Y ad n S h 0 [(0, .ref (ad 25)), (1, .int a0), (2, .int a1), (3, .int a2)] [] := by
  unfold PX3_makeThing_oc1 at hP
  unfold FX3_makeThing_oc1 at hR
  refine j_aload_n C dX3_makeThing_0 rfl rfl ?_
  refine gCRX3_60 (v := (h 25 10)) C dX3_makeThing_1 (W.lt 25 (by decide)) (sh_25 W) rfl rfl ?_
  refine j_istore C dX3_makeThing_4 (by decide) rfl ?_
  refine j_aload_n C dX3_makeThing_6 rfl rfl ?_
  refine j_dup C dX3_makeThing_7 rfl ?_
  refine gCRX3_60 (v := (h 25 10)) C dX3_makeThing_8 (W.lt 25 (by decide)) (sh_25 W) rfl rfl ?_
  refine j_iconst (v := 1) C dX3_makeThing_11 (by decide) ?_
  refine j_iadd C dX3_makeThing_12 ?_
  refine pCRX3_60 C dX3_makeThing_13 (W.lt 25 (by decide)) (sh_25 W) rfl ?_
  refine j_aload_n C dX3_makeThing_16 rfl rfl ?_
  refine gCRX3_27 C dX3_makeThing_17 (W.lt 25 (by decide)) (sh_25 W) rfl ?_
  refine j_iload C dX3_makeThing_20 rfl ?_
  refine j_iload_n C dX3_makeThing_22 rfl rfl ?_
  obtain ⟨p13, hP⟩ := hP
  refine j_iast (k := 31) C dX3_makeThing_23 (W.lt 31 (by decide)) (sh_31 W) p13 ?_
  refine j_aload_n C dX3_makeThing_24 rfl rfl ?_
  refine gCRX3_30 C dX3_makeThing_25 (W.lt 25 (by decide)) (sh_25 W) rfl ?_
  refine j_iload C dX3_makeThing_28 rfl ?_
  refine j_iload_n C dX3_makeThing_30 rfl rfl ?_
  obtain ⟨p19, hP⟩ := hP
  refine j_iast (k := 32) C dX3_makeThing_31 (W.lt 32 (by decide)) (sh_32 W) p19 ?_
  refine j_aload_n C dX3_makeThing_32 rfl rfl ?_
  refine gCRX3_33 C dX3_makeThing_33 (W.lt 25 (by decide)) (sh_25 W) rfl ?_
  refine j_iload C dX3_makeThing_36 rfl ?_
  refine j_bipush (v := (-2)) C dX3_makeThing_38 (by decide) ?_
  obtain ⟨p25, hP⟩ := hP
  refine j_iast (k := 33) C dX3_makeThing_40 (W.lt 33 (by decide)) (sh_33 W) p25 ?_
  refine j_aload_n C dX3_makeThing_41 rfl rfl ?_
  refine gCRX3_9 C dX3_makeThing_42 (W.lt 25 (by decide)) (sh_25 W) rfl ?_
  refine j_iload_n C dX3_makeThing_45 rfl rfl ?_
  refine j_iload_n C dX3_makeThing_46 rfl rfl ?_
  obtain ⟨p31, hP⟩ := hP
  refine j_iast (k := 26) C dX3_makeThing_47 (W.lt 26 (by decide)) (sh_26 W) p31 ?_
  refine j_aload_n C dX3_makeThing_48 rfl rfl ?_
  refine gCRX3_15 C dX3_makeThing_49 (W.lt 25 (by decide)) (sh_25 W) rfl ?_
  refine j_iload_n C dX3_makeThing_52 rfl rfl ?_
  refine j_iload C dX3_makeThing_53 rfl ?_
  obtain ⟨p37, hP⟩ := hP
  refine j_iast (k := 27) C dX3_makeThing_55 (W.lt 27 (by decide)) (sh_27 W) p37 ?_
  refine j_iconst (v := 0) C dX3_makeThing_56 (by decide) ?_
  exact RETi_u hR _ _ dX3_makeThing_57
theorem MX3_makeThing_oc1 {l0 : Launch} {Y : fj_Y} {ad : Nat → Nat} {n : Nat} {S : ph_S} (W : WS 1 n S) (a0 : Int32) (a1 : Int32) (a2 : Int32) (h : ph_H) (hP : PX3_makeThing_oc1 a0 a1 a2 h) : MI l0 yX3_makeThing cX3_makeThing 5 (some .int) ({ frames := 0, cells := 0, slots := 0, locals := 0 } : Room) Y ad n S h [.ref (ad 25), .int a0, .int a1, .int a2] (fun r S' h' => S' = S ∧ h' = (FX3_makeThing_oc1 a0 a1 a2 h).2 ∧ r = (FX3_makeThing_oc1 a0 a1 a2 h).1) := met_i (by decide) (Nat.le_of_ble_eq_true rfl) (fun _ _ _ _ => rfl) (fun X C K => j_vl (tX3_makeThing_oc1 W C a0 a1 a2 h hP (fun pc lv hd => K _ _ _ ⟨rfl, rfl, rfl⟩ pc lv hd)) ⟨rfl, rfl, rfl, rfl, trivial⟩)

-- X3_makeLock_oc1
def FX3_makeLock_oc1_22  (s0 : Int32) (s1 : Int32) (h : ph_H) : Int32 × ph_H := ((FX3_makeThing_oc1 s1 s0 0 h).1, (FX3_makeThing_oc1 s1 s0 0 h).2)
def PX3_makeLock_oc1_22  (s0 : Int32) (s1 : Int32) (h : ph_H) : Prop := (PX3_makeThing_oc1 s1 s0 0 h) ∧ (True)
set_option maxRecDepth 100000 in
set_option maxHeartbeats 4000000 in
theorem tX3_makeLock_oc1_22 {X : fj_X} {Y : fj_Y} {l0 : Launch} {ad : Nat → Nat} {n : Nat} {S : ph_S} (W : WS 1 n S) (C : FC X Y l0 cX3_makeLock 3 RX3 ({ frames := 1, cells := 0, slots := 0, locals := 24 } : Room) 0 0 (some .int)) (s0 : Int32) (s1 : Int32) (h : ph_H) (hP : PX3_makeLock_oc1_22  s0 s1 h) (hR : RETi X Y ad n S cX3_makeLock (FX3_makeLock_oc1_22  s0 s1 h)) : FJ X Y ad n S h 22 [] [.int s0, .int s1, .ref (ad 25)] := by
  unfold PX3_makeLock_oc1_22 at hP
  unfold FX3_makeLock_oc1_22 at hR
  refine j_iconst (v := 0) C dX3_makeLock_22 (by decide) ?_
  obtain ⟨p1, hP⟩ := hP
  refine j_callV C (MX3_makeThing_oc1 W s1 s0 0 h p1) dX3_makeLock_23 (CKX3_makeThing (by decide)) ⟨rfl, rfl⟩ lk_RX3_193 in_X3_makeThing se_X3_makeThing (W.lt 25 (by decide)) (sh_25 W) rfl rfl (Nat.le_of_ble_eq_true rfl) ?_
  intro r S' h' hq
  obtain ⟨e1, e2, e3⟩ := hq
  rw [e1, e2, e3]
  exact RETi_u hR _ _ dX3_makeLock_26
def FX3_makeLock_oc1 (a0 : Int32) (a1 : Int32) (h : ph_H) : Int32 × ph_H := if (h 25 10) < 12 then (if a1 = 0 then (FX3_makeLock_oc1_22  2 a0 h) else (FX3_makeLock_oc1_22  3 a0 h)) else ((3, h))
def PX3_makeLock_oc1 (a0 : Int32) (a1 : Int32) (h : ph_H) : Prop := ((h 25 10) < 12 → ((a1 = 0 → (PX3_makeLock_oc1_22  2 a0 h)) ∧ (¬ a1 = 0 → (PX3_makeLock_oc1_22  3 a0 h)))) ∧ (¬ (h 25 10) < 12 → (True))
set_option maxRecDepth 100000 in
set_option maxHeartbeats 4000000 in
theorem tX3_makeLock_oc1 {X : fj_X} {Y : fj_Y} {l0 : Launch} {ad : Nat → Nat} {n : Nat} {S : ph_S} (W : WS 1 n S) (C : FC X Y l0 cX3_makeLock 3 RX3 ({ frames := 1, cells := 0, slots := 0, locals := 24 } : Room) 0 0 (some .int)) (a0 : Int32) (a1 : Int32) (h : ph_H) (hP : PX3_makeLock_oc1 a0 a1 h) (hR : RETi X Y ad n S cX3_makeLock (FX3_makeLock_oc1 a0 a1 h)) : FJ X Y ad n S h 0 [(0, .ref (ad 25)), (1, .int a0), (2, .int a1)] [] := by
  unfold PX3_makeLock_oc1 at hP
  unfold FX3_makeLock_oc1 at hR
  refine j_aload_n C dX3_makeLock_0 rfl rfl ?_
  refine gCRX3_60 (v := (h 25 10)) C dX3_makeLock_1 (W.lt 25 (by decide)) (sh_25 W) rfl rfl ?_
  refine j_bipush (v := 12) C dX3_makeLock_4 (by decide) ?_
  refine j_icmp_lt (tgt := 11) C dX3_makeLock_6 (by decide) (fun c0 => ?_) (fun c0 => ?_)
  · have hP := hP.1 c0
    rw [if_pos c0] at hR
    refine j_aload_n C dX3_makeLock_11 rfl rfl ?_
    refine j_iload_n C dX3_makeLock_12 rfl rfl ?_
    refine j_iload_n C dX3_makeLock_13 rfl rfl ?_
    refine j_if_eq (tgt := 21) C dX3_makeLock_14 (by decide) (fun c1 => ?_) (fun c1 => ?_)
    · have hP := hP.1 c1
      rw [if_pos c1] at hR
      refine j_iconst (v := 2) C dX3_makeLock_21 (by decide) ?_
      exact j_vl (tX3_makeLock_oc1_22 W C  2 a0 h hP hR) trivial
    · have hP := hP.2 c1
      rw [if_neg c1] at hR
      refine j_iconst (v := 3) C dX3_makeLock_17 (by decide) ?_
      refine j_goto (tgt := 22) C dX3_makeLock_18 (by decide) ?_
      exact j_vl (tX3_makeLock_oc1_22 W C  3 a0 h hP hR) trivial
  · have hP := hP.2 c0
    rw [if_neg c0] at hR
    refine j_iconst (v := 3) C dX3_makeLock_9 (by decide) ?_
    exact RETi_u hR _ _ dX3_makeLock_10
theorem MX3_makeLock_oc1 {l0 : Launch} {Y : fj_Y} {ad : Nat → Nat} {n : Nat} {S : ph_S} (W : WS 1 n S) (a0 : Int32) (a1 : Int32) (h : ph_H) (hP : PX3_makeLock_oc1 a0 a1 h) : MI l0 yX3_makeLock cX3_makeLock 3 (some .int) ({ frames := 1, cells := 0, slots := 0, locals := 24 } : Room) Y ad n S h [.ref (ad 25), .int a0, .int a1] (fun r S' h' => S' = S ∧ h' = (FX3_makeLock_oc1 a0 a1 h).2 ∧ r = (FX3_makeLock_oc1 a0 a1 h).1) := met_i (by decide) (Nat.le_of_ble_eq_true rfl) (fun _ _ _ _ => rfl) (fun X C K => j_vl (tX3_makeLock_oc1 W C a0 a1 h hP (fun pc lv hd => K _ _ _ ⟨rfl, rfl, rfl⟩ pc lv hd)) ⟨rfl, rfl, rfl, trivial⟩)

-- X3_makeRow_oc1
def FX3_makeRow_oc1_44  : Nat → Int32 → Int32 → Int32 → ph_H → Int32 × ph_H
  | 0, _, _, _, h => (0, h)
  | q + 1, x1, x3, x4, h => if x3 ≤ x4 then (((FX3_makeThing_oc1 x1 1 x3 h).1, (FX3_makeThing_oc1 x1 1 x3 h).2)) else (FX3_makeRow_oc1_44  q x1 x3 (x4 + 1) (hs h 34 (((h 25 10) * 16) + x4).toNatClampNeg 0))
def PX3_makeRow_oc1_44  : Nat → Int32 → Int32 → Int32 → ph_H → Prop
  | 0, _, _, _, _ => False
  | q + 1, x1, x3, x4, h => (x3 ≤ x4 → ((PX3_makeThing_oc1 x1 1 x3 h) ∧ (True))) ∧ (¬ x3 ≤ x4 → (vp_in (((h 25 10) * 16) + x4) 192 ∧ (PX3_makeRow_oc1_44  q x1 x3 (x4 + 1) (hs h 34 (((h 25 10) * 16) + x4).toNatClampNeg 0))))
set_option maxRecDepth 100000 in
set_option maxHeartbeats 4000000 in
theorem tX3_makeRow_oc1_44 {X : fj_X} {Y : fj_Y} {l0 : Launch} {ad : Nat → Nat} {n : Nat} {S : ph_S} (W : WS 1 n S) (C : FC X Y l0 cX3_makeRow 5 RX3 ({ frames := 1, cells := 0, slots := 0, locals := 24 } : Room) 0 0 (some .int)) : ∀ (q : Nat) (x1 : Int32) (x3 : Int32) (x4 : Int32) (h : ph_H), PX3_makeRow_oc1_44  q x1 x3 x4 h → RETi X Y ad n S cX3_makeRow (FX3_makeRow_oc1_44  q x1 x3 x4 h) → FJ X Y ad n S h 44 [(0, .ref (ad 25)), (1, .int x1), (3, .int x3), (4, .int x4)] [] := by
  intro q
  induction q with
  | zero =>
    intro x1 x3 x4 h hP hR
    exact absurd hP id
  | succ q ih =>
    intro x1 x3 x4 h hP hR
    unfold PX3_makeRow_oc1_44 at hP
    unfold FX3_makeRow_oc1_44 at hR
    refine j_iload C dX3_makeRow_44 rfl ?_
    refine j_iload_n C dX3_makeRow_46 rfl rfl ?_
    refine j_icmp_ge (tgt := 72) C dX3_makeRow_47 (by decide) (fun c0 => ?_) (fun c0 => ?_)
    · have hP := hP.1 c0
      rw [if_pos c0] at hR
      refine j_aload_n C dX3_makeRow_72 rfl rfl ?_
      refine j_iload_n C dX3_makeRow_73 rfl rfl ?_
      refine j_iconst (v := 1) C dX3_makeRow_74 (by decide) ?_
      refine j_iload_n C dX3_makeRow_75 rfl rfl ?_
      obtain ⟨p4, hP⟩ := hP
      refine j_callV C (MX3_makeThing_oc1 W x1 1 x3 h p4) dX3_makeRow_76 (CKX3_makeThing (by decide)) ⟨rfl, rfl⟩ lk_RX3_193 in_X3_makeThing se_X3_makeThing (W.lt 25 (by decide)) (sh_25 W) rfl rfl (Nat.le_of_ble_eq_true rfl) ?_
      intro r S' h' hq
      obtain ⟨e1, e2, e3⟩ := hq
      rw [e1, e2, e3]
      exact RETi_u hR _ _ dX3_makeRow_79
    · have hP := hP.2 c0
      rw [if_neg c0] at hR
      refine j_aload_n C dX3_makeRow_50 rfl rfl ?_
      refine gCRX3_36 C dX3_makeRow_51 (W.lt 25 (by decide)) (sh_25 W) rfl ?_
      refine j_aload_n C dX3_makeRow_54 rfl rfl ?_
      refine gCRX3_60 (v := (h 25 10)) C dX3_makeRow_55 (W.lt 25 (by decide)) (sh_25 W) rfl rfl ?_
      refine j_bipush (v := 16) C dX3_makeRow_58 (by decide) ?_
      refine j_imul C dX3_makeRow_60 ?_
      refine j_iload C dX3_makeRow_61 rfl ?_
      refine j_iadd C dX3_makeRow_63 ?_
      refine j_iconst (v := 0) C dX3_makeRow_64 (by decide) ?_
      obtain ⟨p9, hP⟩ := hP
      refine j_iast (k := 34) C dX3_makeRow_65 (W.lt 34 (by decide)) (sh_34 W) p9 ?_
      refine j_iinc (v := (x4 + 1)) C dX3_makeRow_66 rfl rfl (by decide) rfl ?_
      refine j_goto (tgt := 44) C dX3_makeRow_69 (by decide) ?_
      exact j_vl (ih x1 x3 (x4 + 1) (hs h 34 (((h 25 10) * 16) + x4).toNatClampNeg 0) hP hR) ⟨rfl, rfl, rfl, rfl, trivial⟩
def FX3_makeRow_oc1 (a0 : Int32) (a1 : Int32) (h : ph_H) : Int32 × ph_H := if (h 26 (a1.toNatClampNeg)) = 0 then (if 0 ≤ (h 27 (a1.toNatClampNeg)) then (if 16 < (h 27 (a1.toNatClampNeg)) then ((3, h)) else (if (h 25 10) < 12 then (FX3_makeRow_oc1_44 2000 a0 (h 27 (a1.toNatClampNeg)) 0 h) else ((3, h)))) else ((2, h))) else ((1, h))
def PX3_makeRow_oc1 (a0 : Int32) (a1 : Int32) (h : ph_H) : Prop := vp_in a1 28 ∧ (((h 26 (a1.toNatClampNeg)) = 0 → (vp_in a1 28 ∧ ((0 ≤ (h 27 (a1.toNatClampNeg)) → ((16 < (h 27 (a1.toNatClampNeg)) → (True)) ∧ (¬ 16 < (h 27 (a1.toNatClampNeg)) → (((h 25 10) < 12 → (PX3_makeRow_oc1_44 2000 a0 (h 27 (a1.toNatClampNeg)) 0 h)) ∧ (¬ (h 25 10) < 12 → (True)))))) ∧ (¬ 0 ≤ (h 27 (a1.toNatClampNeg)) → (True))))) ∧ (¬ (h 26 (a1.toNatClampNeg)) = 0 → (True)))
set_option maxRecDepth 100000 in
set_option maxHeartbeats 4000000 in
theorem tX3_makeRow_oc1 {X : fj_X} {Y : fj_Y} {l0 : Launch} {ad : Nat → Nat} {n : Nat} {S : ph_S} (W : WS 1 n S) (C : FC X Y l0 cX3_makeRow 5 RX3 ({ frames := 1, cells := 0, slots := 0, locals := 24 } : Room) 0 0 (some .int)) (a0 : Int32) (a1 : Int32) (h : ph_H) (hP : PX3_makeRow_oc1 a0 a1 h) (hR : RETi X Y ad n S cX3_makeRow (FX3_makeRow_oc1 a0 a1 h)) : FJ X Y ad n S h 0 [(0, .ref (ad 25)), (1, .int a0), (2, .int a1)] [] := by
  unfold PX3_makeRow_oc1 at hP
  unfold FX3_makeRow_oc1 at hR
  refine j_aload_n C dX3_makeRow_0 rfl rfl ?_
  refine gCRX3_9 C dX3_makeRow_1 (W.lt 25 (by decide)) (sh_25 W) rfl ?_
  refine j_iload_n C dX3_makeRow_4 rfl rfl ?_
  obtain ⟨p3, hP⟩ := hP
  refine j_iald (k := 26) (v := (h 26 (a1.toNatClampNeg))) C dX3_makeRow_5 (W.lt 26 (by decide)) (sh_26 W) p3 rfl ?_
  refine j_if_eq (tgt := 11) C dX3_makeRow_6 (by decide) (fun c0 => ?_) (fun c0 => ?_)
  · have hP := hP.1 c0
    rw [if_pos c0] at hR
    refine j_aload_n C dX3_makeRow_11 rfl rfl ?_
    refine gCRX3_15 C dX3_makeRow_12 (W.lt 25 (by decide)) (sh_25 W) rfl ?_
    refine j_iload_n C dX3_makeRow_15 rfl rfl ?_
    obtain ⟨p3, hP⟩ := hP
    refine j_iald (k := 27) (v := (h 27 (a1.toNatClampNeg))) C dX3_makeRow_16 (W.lt 27 (by decide)) (sh_27 W) p3 rfl ?_
    refine j_istore_n C dX3_makeRow_17 rfl (by decide) rfl ?_
    refine j_iload_n C dX3_makeRow_18 rfl rfl ?_
    refine j_if_ge (tgt := 24) C dX3_makeRow_19 (by decide) (fun c1 => ?_) (fun c1 => ?_)
    · have hP := hP.1 c1
      rw [if_pos c1] at hR
      refine j_iload_n C dX3_makeRow_24 rfl rfl ?_
      refine j_bipush (v := 16) C dX3_makeRow_25 (by decide) ?_
      refine j_icmp_gt (tgt := 39) C dX3_makeRow_27 (by decide) (fun c2 => ?_) (fun c2 => ?_)
      · have hP := hP.1 c2
        rw [if_pos c2] at hR
        refine j_iconst (v := 3) C dX3_makeRow_39 (by decide) ?_
        exact RETi_u hR _ _ dX3_makeRow_40
      · have hP := hP.2 c2
        rw [if_neg c2] at hR
        refine j_aload_n C dX3_makeRow_30 rfl rfl ?_
        refine gCRX3_60 (v := (h 25 10)) C dX3_makeRow_31 (W.lt 25 (by decide)) (sh_25 W) rfl rfl ?_
        refine j_bipush (v := 12) C dX3_makeRow_34 (by decide) ?_
        refine j_icmp_lt (tgt := 41) C dX3_makeRow_36 (by decide) (fun c3 => ?_) (fun c3 => ?_)
        · have hP := hP.1 c3
          rw [if_pos c3] at hR
          refine j_iconst (v := 0) C dX3_makeRow_41 (by decide) ?_
          refine j_istore C dX3_makeRow_42 (by decide) rfl ?_
          exact j_vl (tX3_makeRow_oc1_44 W C 2000 a0 (h 27 (a1.toNatClampNeg)) 0 h hP hR) ⟨rfl, rfl, rfl, rfl, trivial⟩
        · have hP := hP.2 c3
          rw [if_neg c3] at hR
          refine j_iconst (v := 3) C dX3_makeRow_39 (by decide) ?_
          exact RETi_u hR _ _ dX3_makeRow_40
    · have hP := hP.2 c1
      rw [if_neg c1] at hR
      refine j_iconst (v := 2) C dX3_makeRow_22 (by decide) ?_
      exact RETi_u hR _ _ dX3_makeRow_23
  · have hP := hP.2 c0
    rw [if_neg c0] at hR
    refine j_iconst (v := 1) C dX3_makeRow_9 (by decide) ?_
    exact RETi_u hR _ _ dX3_makeRow_10
theorem MX3_makeRow_oc1 {l0 : Launch} {Y : fj_Y} {ad : Nat → Nat} {n : Nat} {S : ph_S} (W : WS 1 n S) (a0 : Int32) (a1 : Int32) (h : ph_H) (hP : PX3_makeRow_oc1 a0 a1 h) : MI l0 yX3_makeRow cX3_makeRow 5 (some .int) ({ frames := 1, cells := 0, slots := 0, locals := 24 } : Room) Y ad n S h [.ref (ad 25), .int a0, .int a1] (fun r S' h' => S' = S ∧ h' = (FX3_makeRow_oc1 a0 a1 h).2 ∧ r = (FX3_makeRow_oc1 a0 a1 h).1) := met_i (by decide) (Nat.le_of_ble_eq_true rfl) (fun _ _ _ _ => rfl) (fun X C K => j_vl (tX3_makeRow_oc1 W C a0 a1 h hP (fun pc lv hd => K _ _ _ ⟨rfl, rfl, rfl⟩ pc lv hd)) ⟨rfl, rfl, rfl, trivial⟩)
