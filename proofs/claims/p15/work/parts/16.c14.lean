-- X3_begin_ot
def FX3_begin_ot_52  (x2 : Int32) (h : ph_H) : ph_H := (hs (hs (hs (hs h 29 (0 : Int32).toNatClampNeg 1) 25 10 0) 25 11 x2) 25 12 0)
def PX3_begin_ot_52  (x2 : Int32) (h : ph_H) : Prop := vp_in 0 4 ∧ (True)
set_option maxRecDepth 100000 in
set_option maxHeartbeats 4000000 in
theorem tX3_begin_ot_52 {X : fj_X} {Y : fj_Y} {l0 : Launch} {ad : Nat → Nat} {n : Nat} {S : ph_S} (W : WS 8 n S) (C : FC X Y l0 cX3_begin 3 RX3 ({ frames := 1, cells := 0, slots := 0, locals := 26 } : Room) 0 0 none) (x2 : Int32) (h : ph_H) (hP : PX3_begin_ot_52  x2 h) (hR : RETv X Y ad n S cX3_begin (FX3_begin_ot_52  x2 h)) : FJ X Y ad n S h 52 [(0, .ref (ad 25)), (2, .int x2)] [] := by
  unfold PX3_begin_ot_52 at hP
  unfold FX3_begin_ot_52 at hR
  refine j_aload_n C dX3_begin_52 rfl rfl ?_
  refine gCRX3_21 C dX3_begin_53 (W.lt 25 (by decide)) (sh_25 W) rfl ?_
  refine j_iconst (v := 0) C dX3_begin_56 (by decide) ?_
  refine j_iconst (v := 1) C dX3_begin_57 (by decide) ?_
  obtain ⟨p4, hP⟩ := hP
  refine j_iast (k := 29) C dX3_begin_58 (W.lt 29 (by decide)) (sh_29 W) p4 ?_
  refine j_aload_n C dX3_begin_59 rfl rfl ?_
  refine j_iconst (v := 0) C dX3_begin_60 (by decide) ?_
  refine pCRX3_60 C dX3_begin_61 (W.lt 25 (by decide)) (sh_25 W) rfl ?_
  refine j_aload_n C dX3_begin_64 rfl rfl ?_
  refine j_iload_n C dX3_begin_65 rfl rfl ?_
  refine pCRX3_64 C dX3_begin_66 (W.lt 25 (by decide)) (sh_25 W) rfl ?_
  refine j_aload_n C dX3_begin_69 rfl rfl ?_
  refine j_iconst (v := 0) C dX3_begin_70 (by decide) ?_
  refine pCRX3_67 C dX3_begin_71 (W.lt 25 (by decide)) (sh_25 W) rfl ?_
  exact hR _ _ dX3_begin_74
def FX3_begin_ot_44  (x2 : Int32) (h : ph_H) : ph_H := FX3_begin_ot_52  x2 (FJ7_fill_53178_k29 0 h)
def PX3_begin_ot_44  (x2 : Int32) (h : ph_H) : Prop := (PJ7_fill_53178_k29 0 h) ∧ (PX3_begin_ot_52  x2 (FJ7_fill_53178_k29 0 h))
set_option maxRecDepth 100000 in
set_option maxHeartbeats 4000000 in
theorem tX3_begin_ot_44 {X : fj_X} {Y : fj_Y} {l0 : Launch} {ad : Nat → Nat} {n : Nat} {S : ph_S} (W : WS 8 n S) (C : FC X Y l0 cX3_begin 3 RX3 ({ frames := 1, cells := 0, slots := 0, locals := 26 } : Room) 0 0 none) (x2 : Int32) (h : ph_H) (hP : PX3_begin_ot_44  x2 h) (hR : RETv X Y ad n S cX3_begin (FX3_begin_ot_44  x2 h)) : FJ X Y ad n S h 44 [(0, .ref (ad 25)), (2, .int x2)] [] := by
  unfold PX3_begin_ot_44 at hP
  unfold FX3_begin_ot_44 at hR
  refine j_aload_n C dX3_begin_44 rfl rfl ?_
  refine gCRX3_21 C dX3_begin_45 (W.lt 25 (by decide)) (sh_25 W) rfl ?_
  refine j_iconst (v := 0) C dX3_begin_48 (by decide) ?_
  obtain ⟨p3, hP⟩ := hP
  refine j_callSv C (MJ7_fill_53178_k29 W 0 h p3) dX3_begin_49 (CKJ7_fill_53178 (by decide)) ⟨rfl, rfl⟩ lk_RX3_43 st_J7_fill_53178 rfl (Nat.le_of_ble_eq_true rfl) ?_
  intro S' h' hq
  obtain ⟨e1, e2⟩ := hq
  rw [e1, e2]
  exact j_vl (tX3_begin_ot_52 W C  x2 (FJ7_fill_53178_k29 0 h) hP hR) ⟨rfl, rfl, trivial⟩
def FX3_begin_ot_21  (x2 : Int32) (h : ph_H) : ph_H := FX3_begin_ot_44  x2 (FJ7_fill_53178_k28 0 (hc h 11 27 0 0 12))
def PX3_begin_ot_21  (x2 : Int32) (h : ph_H) : Prop := cpok 0 0 12 12 28 ∧ ((PJ7_fill_53178_k28 0 (hc h 11 27 0 0 12)) ∧ (PX3_begin_ot_44  x2 (FJ7_fill_53178_k28 0 (hc h 11 27 0 0 12))))
set_option maxRecDepth 100000 in
set_option maxHeartbeats 4000000 in
theorem tX3_begin_ot_21 {X : fj_X} {Y : fj_Y} {l0 : Launch} {ad : Nat → Nat} {n : Nat} {S : ph_S} (W : WS 8 n S) (C : FC X Y l0 cX3_begin 3 RX3 ({ frames := 1, cells := 0, slots := 0, locals := 26 } : Room) 0 0 none) (x2 : Int32) (h : ph_H) (hP : PX3_begin_ot_21  x2 h) (hR : RETv X Y ad n S cX3_begin (FX3_begin_ot_21  x2 h)) : FJ X Y ad n S h 21 [(0, .ref (ad 25)), (1, .ref (ad 8)), (2, .int x2)] [] := by
  unfold PX3_begin_ot_21 at hP
  unfold FX3_begin_ot_21 at hR
  refine j_aload_n C dX3_begin_21 rfl rfl ?_
  refine gCRX3_49 C dX3_begin_22 (W.lt 8 (by decide)) (sh_8 W) rfl ?_
  refine j_iconst (v := 0) C dX3_begin_25 (by decide) ?_
  refine j_aload_n C dX3_begin_26 rfl rfl ?_
  refine gCRX3_15 C dX3_begin_27 (W.lt 25 (by decide)) (sh_25 W) rfl ?_
  refine j_iconst (v := 0) C dX3_begin_30 (by decide) ?_
  refine j_bipush (v := 12) C dX3_begin_31 (by decide) ?_
  obtain ⟨p7, hP⟩ := hP
  refine j_copy (k0 := 11) (k1 := 27) C dX3_begin_33 lk_RX3_54 ac_n ac_s ac_i (W.lt 11 (by decide)) (sh_11 W) (W.lt 27 (by decide)) (sh_27 W) p7 (by decide) (Nat.le_of_ble_eq_true rfl) ?_
  refine j_aload_n C dX3_begin_36 rfl rfl ?_
  refine gCRX3_18 C dX3_begin_37 (W.lt 25 (by decide)) (sh_25 W) rfl ?_
  refine j_iconst (v := 0) C dX3_begin_40 (by decide) ?_
  obtain ⟨p12, hP⟩ := hP
  refine j_callSv C (MJ7_fill_53178_k28 W 0 (hc h 11 27 0 0 12) p12) dX3_begin_41 (CKJ7_fill_53178 (by decide)) ⟨rfl, rfl⟩ lk_RX3_43 st_J7_fill_53178 rfl (Nat.le_of_ble_eq_true rfl) ?_
  intro S' h' hq
  obtain ⟨e1, e2⟩ := hq
  rw [e1, e2]
  exact j_vl (tX3_begin_ot_44 W C  x2 (FJ7_fill_53178_k28 0 (hc h 11 27 0 0 12)) hP hR) ⟨rfl, rfl, trivial⟩
def FX3_begin_ot_13  (x2 : Int32) (h : ph_H) : ph_H := FX3_begin_ot_21  x2 (FJ7_fill_53178_k27 0 h)
def PX3_begin_ot_13  (x2 : Int32) (h : ph_H) : Prop := (PJ7_fill_53178_k27 0 h) ∧ (PX3_begin_ot_21  x2 (FJ7_fill_53178_k27 0 h))
set_option maxRecDepth 100000 in
set_option maxHeartbeats 4000000 in
theorem tX3_begin_ot_13 {X : fj_X} {Y : fj_Y} {l0 : Launch} {ad : Nat → Nat} {n : Nat} {S : ph_S} (W : WS 8 n S) (C : FC X Y l0 cX3_begin 3 RX3 ({ frames := 1, cells := 0, slots := 0, locals := 26 } : Room) 0 0 none) (x2 : Int32) (h : ph_H) (hP : PX3_begin_ot_13  x2 h) (hR : RETv X Y ad n S cX3_begin (FX3_begin_ot_13  x2 h)) : FJ X Y ad n S h 13 [(0, .ref (ad 25)), (1, .ref (ad 8)), (2, .int x2)] [] := by
  unfold PX3_begin_ot_13 at hP
  unfold FX3_begin_ot_13 at hR
  refine j_aload_n C dX3_begin_13 rfl rfl ?_
  refine gCRX3_15 C dX3_begin_14 (W.lt 25 (by decide)) (sh_25 W) rfl ?_
  refine j_iconst (v := 0) C dX3_begin_17 (by decide) ?_
  obtain ⟨p3, hP⟩ := hP
  refine j_callSv C (MJ7_fill_53178_k27 W 0 h p3) dX3_begin_18 (CKJ7_fill_53178 (by decide)) ⟨rfl, rfl⟩ lk_RX3_43 st_J7_fill_53178 rfl (Nat.le_of_ble_eq_true rfl) ?_
  intro S' h' hq
  obtain ⟨e1, e2⟩ := hq
  rw [e1, e2]
  exact j_vl (tX3_begin_ot_21 W C  x2 (FJ7_fill_53178_k27 0 h) hP hR) ⟨rfl, rfl, rfl, trivial⟩
def FX3_begin_ot (a1 : Int32) (h : ph_H) : ph_H := FX3_begin_ot_13  a1 (FJ7_fill_53178_k26 0 h)
def PX3_begin_ot (a1 : Int32) (h : ph_H) : Prop := (PJ7_fill_53178_k26 0 h) ∧ (PX3_begin_ot_13  a1 (FJ7_fill_53178_k26 0 h))
set_option maxRecDepth 100000 in
set_option maxHeartbeats 4000000 in
theorem tX3_begin_ot {X : fj_X} {Y : fj_Y} {l0 : Launch} {ad : Nat → Nat} {n : Nat} {S : ph_S} {pr : Nat} (W : WS pr n S) (C : FC X Y l0 cX3_begin 3 RX3 ({ frames := 1, cells := 0, slots := 0, locals := 26 } : Room) 0 0 none) (a1 : Int32) (h : ph_H) (hP : PX3_begin_ot a1 h) (hR : RETv X Y ad n (spr S 8) cX3_begin (FX3_begin_ot a1 h)) : FJ X Y ad n S h 0 [(0, .ref (ad 25)), (1, .ref (ad 8)), (2, .int a1)] [] := by
  unfold PX3_begin_ot at hP
  unfold FX3_begin_ot at hR
  refine j_aload_n C dX3_begin_0 rfl rfl ?_
  refine j_aload_n C dX3_begin_1 rfl rfl ?_
  refine pP_o W C dX3_begin_2 ?_
  have W := spr_W (p := 8) W
  refine j_aload_n C dX3_begin_5 rfl rfl ?_
  refine gCRX3_9 C dX3_begin_6 (W.lt 25 (by decide)) (sh_25 W) rfl ?_
  refine j_iconst (v := 0) C dX3_begin_9 (by decide) ?_
  obtain ⟨p7, hP⟩ := hP
  refine j_callSv C (MJ7_fill_53178_k26 W 0 h p7) dX3_begin_10 (CKJ7_fill_53178 (by decide)) ⟨rfl, rfl⟩ lk_RX3_43 st_J7_fill_53178 rfl (Nat.le_of_ble_eq_true rfl) ?_
  intro S' h' hq
  obtain ⟨e1, e2⟩ := hq
  rw [e1, e2]
  exact j_vl (tX3_begin_ot_13 W C  a1 (FJ7_fill_53178_k26 0 h) hP hR) ⟨rfl, rfl, rfl, trivial⟩
theorem MX3_begin_ot {l0 : Launch} {Y : fj_Y} {ad : Nat → Nat} {n : Nat} {S : ph_S} {pr : Nat} (W : WS pr n S) (a1 : Int32) (h : ph_H) (hP : PX3_begin_ot a1 h) : MV l0 yX3_begin cX3_begin 3 ({ frames := 1, cells := 0, slots := 0, locals := 26 } : Room) Y ad n S h [.ref (ad 25), .ref (ad 8), .int a1] (fun S' h' => S' = spr S 8 ∧ h' = FX3_begin_ot a1 h) := met_v (by decide) (Nat.le_of_ble_eq_true rfl) (fun X C K => j_vl (tX3_begin_ot W C a1 h hP (fun pc lv hd => K _ _ ⟨rfl, rfl⟩ pc lv hd)) ⟨rfl, rfl, rfl, trivial⟩)

-- X3_nextInstruction_oc2
def FX3_nextInstruction_oc2 (a0 : Int32) (h : ph_H) : Int32 := if (FX3_hasEnded_oc2 a0 h) = 0 then ((h 28 (a0.toNatClampNeg))) else (24)
def PX3_nextInstruction_oc2 (a0 : Int32) (h : ph_H) : Prop := (PX3_hasEnded_oc2 a0 h) ∧ (((FX3_hasEnded_oc2 a0 h) = 0 → (vp_in a0 4 ∧ (True))) ∧ (¬ (FX3_hasEnded_oc2 a0 h) = 0 → (True)))
set_option maxRecDepth 100000 in
set_option maxHeartbeats 4000000 in
theorem tX3_nextInstruction_oc2 {X : fj_X} {Y : fj_Y} {l0 : Launch} {ad : Nat → Nat} {n : Nat} {S : ph_S} (W : WS 8 n S) (C : FC X Y l0 cX3_nextInstruction 2 RX3 ({ frames := 2, cells := 0, slots := 0, locals := 43 } : Room) 0 0 (some .int)) (a0 : Int32) (h : ph_H) (hP : PX3_nextInstruction_oc2 a0 h) (hR : RETp X Y ad n S h cX3_nextInstruction (FX3_nextInstruction_oc2 a0 h)) : FJ X Y ad n S h 0 [(0, .ref (ad 25)), (1, .int a0)] [] := by
  unfold PX3_nextInstruction_oc2 at hP
  unfold FX3_nextInstruction_oc2 at hR
  refine j_aload_n C dX3_nextInstruction_0 rfl rfl ?_
  refine j_iload_n C dX3_nextInstruction_1 rfl rfl ?_
  obtain ⟨p2, hP⟩ := hP
  refine j_callV C (MX3_hasEnded_oc2 W a0 h p2) dX3_nextInstruction_2 (CKX3_hasEnded (by decide)) ⟨rfl, rfl⟩ lk_RX3_74 in_X3_hasEnded se_X3_hasEnded (W.lt 25 (by decide)) (sh_25 W) rfl rfl (Nat.le_of_ble_eq_true rfl) ?_
  intro r S' h' hq
  obtain ⟨e1, hh, e3, hb4⟩ := hq
  rw [e1, hh, e3]
  refine j_if_eq (tgt := 13) C dX3_nextInstruction_5 (by decide) (fun c0 => ?_) (fun c0 => ?_)
  · have hP := hP.1 c0
    rw [if_pos c0] at hR
    refine j_aload_n C dX3_nextInstruction_13 rfl rfl ?_
    refine gCRX3_18 C dX3_nextInstruction_14 (W.lt 25 (by decide)) (sh_25 W) rfl ?_
    refine j_iload_n C dX3_nextInstruction_17 rfl rfl ?_
    obtain ⟨p3, hP⟩ := hP
    refine j_iald (k := 28) (v := (h 28 (a0.toNatClampNeg))) C dX3_nextInstruction_18 (W.lt 28 (by decide)) (sh_28 W) p3 rfl ?_
    exact hR _ _ dX3_nextInstruction_19
  · have hP := hP.2 c0
    rw [if_neg c0] at hR
    refine j_bipush (v := 24) C dX3_nextInstruction_8 (by decide) ?_
    refine j_goto (tgt := 19) C dX3_nextInstruction_10 (by decide) ?_
    exact hR _ _ dX3_nextInstruction_19
theorem MX3_nextInstruction_oc2 {l0 : Launch} {Y : fj_Y} {ad : Nat → Nat} {n : Nat} {S : ph_S} (W : WS 8 n S) (a0 : Int32) (h : ph_H) (hP : PX3_nextInstruction_oc2 a0 h) : MI l0 yX3_nextInstruction cX3_nextInstruction 2 (some .int) ({ frames := 2, cells := 0, slots := 0, locals := 43 } : Room) Y ad n S h [.ref (ad 25), .int a0] (fun r S' h' => S' = S ∧ h' = h ∧ r = FX3_nextInstruction_oc2 a0 h) := met_i (by decide) (Nat.le_of_ble_eq_true rfl) (fun _ _ _ _ => rfl) (fun X C K => j_vl (tX3_nextInstruction_oc2 W C a0 h hP (fun pc lv hd => K _ _ _ ⟨rfl, rfl, rfl⟩ pc lv hd)) ⟨rfl, rfl, trivial⟩)

-- X3_differences_soc2
def FX3_differences_soc2_43 (L4 : Int32 → Int32 → ph_H → Int32) (x2 : Int32) (x3 : Int32) (h : ph_H) : Int32 := L4 x2 (x3 + 1) h
def PX3_differences_soc2_43 (LP4 : Int32 → Int32 → ph_H → Prop) (x2 : Int32) (x3 : Int32) (h : ph_H) : Prop := LP4 x2 (x3 + 1) h
set_option maxRecDepth 100000 in
set_option maxHeartbeats 4000000 in
theorem tX3_differences_soc2_43 {X : fj_X} {Y : fj_Y} {l0 : Launch} {ad : Nat → Nat} {n : Nat} {S : ph_S} (W : WS 8 n S) (C : FC X Y l0 cX3_differences 4 RX3 ({ frames := 3, cells := 0, slots := 0, locals := 64 } : Room) 0 0 (some .int)) (h : ph_H) (L4 : Int32 → Int32 → ph_H → Int32) (LP4 : Int32 → Int32 → ph_H → Prop) (hL4 : ∀ (x2 : Int32) (x3 : Int32), LP4 x2 x3 h → RETp X Y ad n S h cX3_differences (L4 x2 x3 h) → FJ X Y ad n S h 4 [(0, .ref (ad 15)), (1, .ref (ad 25)), (2, .int x2), (3, .int x3)] []) (x2 : Int32) (x3 : Int32) (hP : PX3_differences_soc2_43 LP4 x2 x3 h) (hR : RETp X Y ad n S h cX3_differences (FX3_differences_soc2_43 L4 x2 x3 h)) : FJ X Y ad n S h 43 [(0, .ref (ad 15)), (1, .ref (ad 25)), (2, .int x2), (3, .int x3)] [] := by
  unfold PX3_differences_soc2_43 at hP
  unfold FX3_differences_soc2_43 at hR
  refine j_iinc (v := (x3 + 1)) C dX3_differences_43 rfl rfl (by decide) rfl ?_
  refine j_goto (tgt := 4) C dX3_differences_46 (by decide) ?_
  exact j_vl (hL4 x2 (x3 + 1) hP hR) ⟨rfl, rfl, rfl, rfl, trivial⟩
def FX3_differences_soc2_40 (L4 : Int32 → Int32 → ph_H → Int32) (x2 : Int32) (x3 : Int32) (h : ph_H) : Int32 := FX3_differences_soc2_43 L4 (x2 + 1) x3 h
def PX3_differences_soc2_40 (LP4 : Int32 → Int32 → ph_H → Prop) (x2 : Int32) (x3 : Int32) (h : ph_H) : Prop := PX3_differences_soc2_43 LP4 (x2 + 1) x3 h
set_option maxRecDepth 100000 in
set_option maxHeartbeats 4000000 in
theorem tX3_differences_soc2_40 {X : fj_X} {Y : fj_Y} {l0 : Launch} {ad : Nat → Nat} {n : Nat} {S : ph_S} (W : WS 8 n S) (C : FC X Y l0 cX3_differences 4 RX3 ({ frames := 3, cells := 0, slots := 0, locals := 64 } : Room) 0 0 (some .int)) (h : ph_H) (L4 : Int32 → Int32 → ph_H → Int32) (LP4 : Int32 → Int32 → ph_H → Prop) (hL4 : ∀ (x2 : Int32) (x3 : Int32), LP4 x2 x3 h → RETp X Y ad n S h cX3_differences (L4 x2 x3 h) → FJ X Y ad n S h 4 [(0, .ref (ad 15)), (1, .ref (ad 25)), (2, .int x2), (3, .int x3)] []) (x2 : Int32) (x3 : Int32) (hP : PX3_differences_soc2_40 LP4 x2 x3 h) (hR : RETp X Y ad n S h cX3_differences (FX3_differences_soc2_40 L4 x2 x3 h)) : FJ X Y ad n S h 40 [(0, .ref (ad 15)), (1, .ref (ad 25)), (2, .int x2), (3, .int x3)] [] := by
  unfold PX3_differences_soc2_40 at hP
  unfold FX3_differences_soc2_40 at hR
  refine j_iinc (v := (x2 + 1)) C dX3_differences_40 rfl rfl (by decide) rfl ?_
  exact j_vl (tX3_differences_soc2_43 W C h L4 LP4 hL4 (x2 + 1) x3 hP hR) ⟨rfl, rfl, rfl, rfl, trivial⟩
def FX3_differences_soc2_72 (L51 : Int32 → Int32 → ph_H → Int32) (x2 : Int32) (x3 : Int32) (h : ph_H) : Int32 := L51 x2 (x3 + 1) h
def PX3_differences_soc2_72 (LP51 : Int32 → Int32 → ph_H → Prop) (x2 : Int32) (x3 : Int32) (h : ph_H) : Prop := LP51 x2 (x3 + 1) h
set_option maxRecDepth 100000 in
set_option maxHeartbeats 4000000 in
theorem tX3_differences_soc2_72 {X : fj_X} {Y : fj_Y} {l0 : Launch} {ad : Nat → Nat} {n : Nat} {S : ph_S} (W : WS 8 n S) (C : FC X Y l0 cX3_differences 4 RX3 ({ frames := 3, cells := 0, slots := 0, locals := 64 } : Room) 0 0 (some .int)) (h : ph_H) (L51 : Int32 → Int32 → ph_H → Int32) (LP51 : Int32 → Int32 → ph_H → Prop) (hL51 : ∀ (x2 : Int32) (x3 : Int32), LP51 x2 x3 h → RETp X Y ad n S h cX3_differences (L51 x2 x3 h) → FJ X Y ad n S h 51 [(0, .ref (ad 15)), (1, .ref (ad 25)), (2, .int x2), (3, .int x3)] []) (x2 : Int32) (x3 : Int32) (hP : PX3_differences_soc2_72 LP51 x2 x3 h) (hR : RETp X Y ad n S h cX3_differences (FX3_differences_soc2_72 L51 x2 x3 h)) : FJ X Y ad n S h 72 [(0, .ref (ad 15)), (1, .ref (ad 25)), (2, .int x2), (3, .int x3)] [] := by
  unfold PX3_differences_soc2_72 at hP
  unfold FX3_differences_soc2_72 at hR
  refine j_iinc (v := (x3 + 1)) C dX3_differences_72 rfl rfl (by decide) rfl ?_
  refine j_goto (tgt := 51) C dX3_differences_75 (by decide) ?_
  exact j_vl (hL51 x2 (x3 + 1) hP hR) ⟨rfl, rfl, rfl, rfl, trivial⟩
def FX3_differences_soc2_51  : Nat → Int32 → Int32 → ph_H → Int32
  | 0, _, _, _ => 0
  | q + 1, x2, x3, h => if 4 ≤ x3 then (x2) else (if (FX3_nextInstruction_s x3 h) = (FX3_nextInstruction_oc2 x3 h) then (FX3_differences_soc2_72 (FX3_differences_soc2_51  q) x2 x3 h) else (FX3_differences_soc2_72 (FX3_differences_soc2_51  q) (x2 + 1) x3 h))
def PX3_differences_soc2_51  : Nat → Int32 → Int32 → ph_H → Prop
  | 0, _, _, _ => False
  | q + 1, x2, x3, h => (4 ≤ x3 → (True)) ∧ (¬ 4 ≤ x3 → ((PX3_nextInstruction_s x3 h) ∧ ((PX3_nextInstruction_oc2 x3 h) ∧ (((FX3_nextInstruction_s x3 h) = (FX3_nextInstruction_oc2 x3 h) → (PX3_differences_soc2_72 (PX3_differences_soc2_51  q) x2 x3 h)) ∧ (¬ (FX3_nextInstruction_s x3 h) = (FX3_nextInstruction_oc2 x3 h) → (PX3_differences_soc2_72 (PX3_differences_soc2_51  q) (x2 + 1) x3 h))))))
set_option maxRecDepth 100000 in
set_option maxHeartbeats 4000000 in
theorem tX3_differences_soc2_51 {X : fj_X} {Y : fj_Y} {l0 : Launch} {ad : Nat → Nat} {n : Nat} {S : ph_S} (W : WS 8 n S) (C : FC X Y l0 cX3_differences 4 RX3 ({ frames := 3, cells := 0, slots := 0, locals := 64 } : Room) 0 0 (some .int)) (h : ph_H) : ∀ (q : Nat) (x2 : Int32) (x3 : Int32), PX3_differences_soc2_51  q x2 x3 h → RETp X Y ad n S h cX3_differences (FX3_differences_soc2_51  q x2 x3 h) → FJ X Y ad n S h 51 [(0, .ref (ad 15)), (1, .ref (ad 25)), (2, .int x2), (3, .int x3)] [] := by
  intro q
  induction q with
  | zero =>
    intro x2 x3 hP hR
    exact absurd hP id
  | succ q ih =>
    intro x2 x3 hP hR
    unfold PX3_differences_soc2_51 at hP
    unfold FX3_differences_soc2_51 at hR
    refine j_iload_n C dX3_differences_51 rfl rfl ?_
    refine j_iconst (v := 4) C dX3_differences_52 (by decide) ?_
    refine j_icmp_ge (tgt := 78) C dX3_differences_53 (by decide) (fun c0 => ?_) (fun c0 => ?_)
    · have hP := hP.1 c0
      rw [if_pos c0] at hR
      refine j_iload_n C dX3_differences_78 rfl rfl ?_
      exact hR _ _ dX3_differences_79
    · have hP := hP.2 c0
      rw [if_neg c0] at hR
      refine j_aload_n C dX3_differences_56 rfl rfl ?_
      refine j_iload_n C dX3_differences_57 rfl rfl ?_
      obtain ⟨p2, hP⟩ := hP
      refine j_callV C (MX3_nextInstruction_s W x3 h p2) dX3_differences_58 (CKX3_nextInstruction (by decide)) ⟨rfl, rfl⟩ lk_RX3_111 in_X3_nextInstruction se_X3_nextInstruction (W.lt 15 (by decide)) (sh_15 W) rfl rfl (Nat.le_of_ble_eq_true rfl) ?_
      intro r S' h' hq
      obtain ⟨e1, hh, e3⟩ := hq
      rw [e1, hh, e3]
      refine j_aload_n C dX3_differences_61 rfl rfl ?_
      refine j_iload_n C dX3_differences_62 rfl rfl ?_
      obtain ⟨p9, hP⟩ := hP
      refine j_callV C (MX3_nextInstruction_oc2 W x3 h p9) dX3_differences_63 (CKX3_nextInstruction (by decide)) ⟨rfl, rfl⟩ lk_RX3_111 in_X3_nextInstruction se_X3_nextInstruction (W.lt 25 (by decide)) (sh_25 W) rfl rfl (Nat.le_of_ble_eq_true rfl) ?_
      intro r S' h' hq
      obtain ⟨e1, hh, e3⟩ := hq
      rw [e1, hh, e3]
      refine j_icmp_eq (tgt := 72) C dX3_differences_66 (by decide) (fun c1 => ?_) (fun c1 => ?_)
      · have hP := hP.1 c1
        rw [if_pos c1] at hR
        exact j_vl (tX3_differences_soc2_72 W C h (FX3_differences_soc2_51  q) (PX3_differences_soc2_51  q) (ih) x2 x3 hP hR) ⟨rfl, rfl, rfl, rfl, trivial⟩
      · have hP := hP.2 c1
        rw [if_neg c1] at hR
        refine j_iinc (v := (x2 + 1)) C dX3_differences_69 rfl rfl (by decide) rfl ?_
        exact j_vl (tX3_differences_soc2_72 W C h (FX3_differences_soc2_51  q) (PX3_differences_soc2_51  q) (ih) (x2 + 1) x3 hP hR) ⟨rfl, rfl, rfl, rfl, trivial⟩
def FX3_differences_soc2_4  : Nat → Int32 → Int32 → ph_H → Int32
  | 0, _, _, _ => 0
  | q + 1, x2, x3, h => if 28 ≤ x3 then (FX3_differences_soc2_51 2000 x2 0 h) else (if (h 16 (x3.toNatClampNeg)) = (h 26 (x3.toNatClampNeg)) then (if (h 17 (x3.toNatClampNeg)) = (h 27 (x3.toNatClampNeg)) then (FX3_differences_soc2_43 (FX3_differences_soc2_4  q) x2 x3 h) else (FX3_differences_soc2_40 (FX3_differences_soc2_4  q) x2 x3 h)) else (FX3_differences_soc2_40 (FX3_differences_soc2_4  q) x2 x3 h))
def PX3_differences_soc2_4  : Nat → Int32 → Int32 → ph_H → Prop
  | 0, _, _, _ => False
  | q + 1, x2, x3, h => (28 ≤ x3 → (PX3_differences_soc2_51 2000 x2 0 h)) ∧ (¬ 28 ≤ x3 → (vp_in x3 28 ∧ (vp_in x3 28 ∧ (((h 16 (x3.toNatClampNeg)) = (h 26 (x3.toNatClampNeg)) → (vp_in x3 28 ∧ (vp_in x3 28 ∧ (((h 17 (x3.toNatClampNeg)) = (h 27 (x3.toNatClampNeg)) → (PX3_differences_soc2_43 (PX3_differences_soc2_4  q) x2 x3 h)) ∧ (¬ (h 17 (x3.toNatClampNeg)) = (h 27 (x3.toNatClampNeg)) → (PX3_differences_soc2_40 (PX3_differences_soc2_4  q) x2 x3 h)))))) ∧ (¬ (h 16 (x3.toNatClampNeg)) = (h 26 (x3.toNatClampNeg)) → (PX3_differences_soc2_40 (PX3_differences_soc2_4  q) x2 x3 h))))))
set_option maxRecDepth 100000 in
set_option maxHeartbeats 4000000 in
theorem tX3_differences_soc2_4 {X : fj_X} {Y : fj_Y} {l0 : Launch} {ad : Nat → Nat} {n : Nat} {S : ph_S} (W : WS 8 n S) (C : FC X Y l0 cX3_differences 4 RX3 ({ frames := 3, cells := 0, slots := 0, locals := 64 } : Room) 0 0 (some .int)) (h : ph_H) : ∀ (q : Nat) (x2 : Int32) (x3 : Int32), PX3_differences_soc2_4  q x2 x3 h → RETp X Y ad n S h cX3_differences (FX3_differences_soc2_4  q x2 x3 h) → FJ X Y ad n S h 4 [(0, .ref (ad 15)), (1, .ref (ad 25)), (2, .int x2), (3, .int x3)] [] := by
  intro q
  induction q with
  | zero =>
    intro x2 x3 hP hR
    exact absurd hP id
  | succ q ih =>
    intro x2 x3 hP hR
    unfold PX3_differences_soc2_4 at hP
    unfold FX3_differences_soc2_4 at hR
    refine j_iload_n C dX3_differences_4 rfl rfl ?_
    refine j_bipush (v := 28) C dX3_differences_5 (by decide) ?_
    refine j_icmp_ge (tgt := 49) C dX3_differences_7 (by decide) (fun c0 => ?_) (fun c0 => ?_)
    · have hP := hP.1 c0
      rw [if_pos c0] at hR
      refine j_iconst (v := 0) C dX3_differences_49 (by decide) ?_
      refine j_istore_n C dX3_differences_50 rfl (by decide) rfl ?_
      exact j_vl (tX3_differences_soc2_51 W C h 2000 x2 0 hP hR) ⟨rfl, rfl, rfl, rfl, trivial⟩
    · have hP := hP.2 c0
      rw [if_neg c0] at hR
      refine j_aload_n C dX3_differences_10 rfl rfl ?_
      refine gCRX3_9 C dX3_differences_11 (W.lt 15 (by decide)) (sh_15 W) rfl ?_
      refine j_iload_n C dX3_differences_14 rfl rfl ?_
      obtain ⟨p3, hP⟩ := hP
      refine j_iald (k := 16) (v := (h 16 (x3.toNatClampNeg))) C dX3_differences_15 (W.lt 16 (by decide)) (sh_16 W) p3 rfl ?_
      refine j_aload_n C dX3_differences_16 rfl rfl ?_
      refine gCRX3_9 C dX3_differences_17 (W.lt 25 (by decide)) (sh_25 W) rfl ?_
      refine j_iload_n C dX3_differences_20 rfl rfl ?_
      obtain ⟨p8, hP⟩ := hP
      refine j_iald (k := 26) (v := (h 26 (x3.toNatClampNeg))) C dX3_differences_21 (W.lt 26 (by decide)) (sh_26 W) p8 rfl ?_
      refine j_icmp_ne (tgt := 40) C dX3_differences_22 (by decide) (fun c1 => ?_) (fun c1 => ?_)
      · have hP := hP.2 c1
        rw [if_neg c1] at hR
        exact j_vl (tX3_differences_soc2_40 W C h (FX3_differences_soc2_4  q) (PX3_differences_soc2_4  q) (ih) x2 x3 hP hR) ⟨rfl, rfl, rfl, rfl, trivial⟩
      · have hP := hP.1 c1
        rw [if_pos c1] at hR
        refine j_aload_n C dX3_differences_25 rfl rfl ?_
        refine gCRX3_15 C dX3_differences_26 (W.lt 15 (by decide)) (sh_15 W) rfl ?_
        refine j_iload_n C dX3_differences_29 rfl rfl ?_
        obtain ⟨p3, hP⟩ := hP
        refine j_iald (k := 17) (v := (h 17 (x3.toNatClampNeg))) C dX3_differences_30 (W.lt 17 (by decide)) (sh_17 W) p3 rfl ?_
        refine j_aload_n C dX3_differences_31 rfl rfl ?_
        refine gCRX3_15 C dX3_differences_32 (W.lt 25 (by decide)) (sh_25 W) rfl ?_
        refine j_iload_n C dX3_differences_35 rfl rfl ?_
        obtain ⟨p8, hP⟩ := hP
        refine j_iald (k := 27) (v := (h 27 (x3.toNatClampNeg))) C dX3_differences_36 (W.lt 27 (by decide)) (sh_27 W) p8 rfl ?_
        refine j_icmp_eq (tgt := 43) C dX3_differences_37 (by decide) (fun c2 => ?_) (fun c2 => ?_)
        · have hP := hP.1 c2
          rw [if_pos c2] at hR
          exact j_vl (tX3_differences_soc2_43 W C h (FX3_differences_soc2_4  q) (PX3_differences_soc2_4  q) (ih) x2 x3 hP hR) ⟨rfl, rfl, rfl, rfl, trivial⟩
        · have hP := hP.2 c2
          rw [if_neg c2] at hR
          exact j_vl (tX3_differences_soc2_40 W C h (FX3_differences_soc2_4  q) (PX3_differences_soc2_4  q) (ih) x2 x3 hP hR) ⟨rfl, rfl, rfl, rfl, trivial⟩
def FX3_differences_soc2 (h : ph_H) : Int32 := FX3_differences_soc2_4 2000 0 0 h
def PX3_differences_soc2 (h : ph_H) : Prop := PX3_differences_soc2_4 2000 0 0 h
set_option maxRecDepth 100000 in
set_option maxHeartbeats 4000000 in
theorem tX3_differences_soc2 {X : fj_X} {Y : fj_Y} {l0 : Launch} {ad : Nat → Nat} {n : Nat} {S : ph_S} (W : WS 8 n S) (C : FC X Y l0 cX3_differences 4 RX3 ({ frames := 3, cells := 0, slots := 0, locals := 64 } : Room) 0 0 (some .int)) (h : ph_H) (hP : PX3_differences_soc2 h) (hR : RETp X Y ad n S h cX3_differences (FX3_differences_soc2 h)) : FJ X Y ad n S h 0 [(0, .ref (ad 15)), (1, .ref (ad 25))] [] := by
  unfold PX3_differences_soc2 at hP
  unfold FX3_differences_soc2 at hR
  refine j_iconst (v := 0) C dX3_differences_0 (by decide) ?_
  refine j_istore_n C dX3_differences_1 rfl (by decide) rfl ?_
  refine j_iconst (v := 0) C dX3_differences_2 (by decide) ?_
  refine j_istore_n C dX3_differences_3 rfl (by decide) rfl ?_
  exact j_vl (tX3_differences_soc2_4 W C h 2000 0 0 hP hR) ⟨rfl, rfl, rfl, rfl, trivial⟩
theorem MX3_differences_soc2 {l0 : Launch} {Y : fj_Y} {ad : Nat → Nat} {n : Nat} {S : ph_S} (W : WS 8 n S) (h : ph_H) (hP : PX3_differences_soc2 h) : MI l0 yX3_differences cX3_differences 4 (some .int) ({ frames := 3, cells := 0, slots := 0, locals := 64 } : Room) Y ad n S h [.ref (ad 15), .ref (ad 25)] (fun r S' h' => S' = S ∧ h' = h ∧ r = FX3_differences_soc2 h) := met_i (by decide) (Nat.le_of_ble_eq_true rfl) (fun _ _ _ _ => rfl) (fun X C K => j_vl (tX3_differences_soc2 W C h hP (fun pc lv hd => K _ _ _ ⟨rfl, rfl, rfl⟩ pc lv hd)) ⟨rfl, rfl, trivial⟩)

-- X11_differ
def FX11_differ_61  (h : ph_H) : Int32 × ph_H := ((FX3_differences_soc2 h), h)
def PX11_differ_61  (h : ph_H) : Prop := (PX3_differences_soc2 h) ∧ (True)
set_option maxRecDepth 100000 in
set_option maxHeartbeats 4000000 in
theorem tX11_differ_61 {X : fj_X} {Y : fj_Y} {l0 : Launch} {ad : Nat → Nat} {n : Nat} {S : ph_S} (W : WS 8 n S) (C : FC X Y l0 cX11_differ 3 RX11 ({ frames := 6, cells := 0, slots := 0, locals := 143 } : Room) 0 0 (some .int)) (h : ph_H) (hP : PX11_differ_61  h) (hR : RETi X Y ad n S cX11_differ (FX11_differ_61  h)) : FJ X Y ad n S h 61 [(0, .ref (ad 0))] [.ref (ad 15)] := by
  unfold PX11_differ_61 at hP
  unfold FX11_differ_61 at hR
  refine j_aload_n C dX11_differ_61 rfl rfl ?_
  refine gCRX11_28 C dX11_differ_62 (W.lt 0 (by decide)) (sh_0 W) rfl ?_
  obtain ⟨p2, hP⟩ := hP
  refine j_callV C (MX3_differences_soc2 W h p2) dX11_differ_65 (CKX3_differences (by decide)) ⟨rfl, rfl⟩ lk_RX11_273 in_X3_differences se_X3_differences (W.lt 15 (by decide)) (sh_15 W) rfl rfl (Nat.le_of_ble_eq_true rfl) ?_
  intro r S' h' hq
  obtain ⟨e1, hh, e3⟩ := hq
  rw [e1, hh, e3]
  exact RETi_u hR _ _ dX11_differ_68
def FX11_differ_56  (x2 : Int32) (h : ph_H) : Int32 × ph_H := FX11_differ_61  (FX11_seenBehind x2 h)
def PX11_differ_56  (x2 : Int32) (h : ph_H) : Prop := (PX11_seenBehind x2 h) ∧ (PX11_differ_61  (FX11_seenBehind x2 h))
set_option maxRecDepth 100000 in
set_option maxHeartbeats 4000000 in
theorem tX11_differ_56 {X : fj_X} {Y : fj_Y} {l0 : Launch} {ad : Nat → Nat} {n : Nat} {S : ph_S} (W : WS 8 n S) (C : FC X Y l0 cX11_differ 3 RX11 ({ frames := 6, cells := 0, slots := 0, locals := 143 } : Room) 0 0 (some .int)) (x2 : Int32) (h : ph_H) (hP : PX11_differ_56  x2 h) (hR : RETi X Y ad n S cX11_differ (FX11_differ_56  x2 h)) : FJ X Y ad n S h 56 [(0, .ref (ad 0)), (2, .int x2)] [] := by
  unfold PX11_differ_56 at hP
  unfold FX11_differ_56 at hR
  refine j_aload_n C dX11_differ_56 rfl rfl ?_
  refine j_iload_n C dX11_differ_57 rfl rfl ?_
  obtain ⟨p2, hP⟩ := hP
  refine j_callVr C (MX11_seenBehind W x2 h p2) dX11_differ_58 (CKX11_seenBehind (by decide)) ⟨rfl, rfl⟩ lk_RX11_200 in_X11_seenBehind se_X11_seenBehind (W.lt 0 (by decide)) (sh_0 W) rfl rfl (Nat.le_of_ble_eq_true rfl) ?_
  intro S' h' hq
  obtain ⟨e1, e2⟩ := hq
  rw [e1, e2]
  exact j_vl (tX11_differ_61 W C  (FX11_seenBehind x2 h) hP hR) ⟨rfl, trivial⟩
def FX11_differ_46  (x1 : Int32) (x2 : Int32) (h : ph_H) : Int32 × ph_H := FX11_differ_56  x2 (FX11_replay_oc2 0 x1 h)
def PX11_differ_46  (x1 : Int32) (x2 : Int32) (h : ph_H) : Prop := (PX11_replay_oc2 0 x1 h) ∧ (PX11_differ_56  x2 (FX11_replay_oc2 0 x1 h))
set_option maxRecDepth 100000 in
set_option maxHeartbeats 4000000 in
theorem tX11_differ_46 {X : fj_X} {Y : fj_Y} {l0 : Launch} {ad : Nat → Nat} {n : Nat} {S : ph_S} (W : WS 8 n S) (C : FC X Y l0 cX11_differ 3 RX11 ({ frames := 6, cells := 0, slots := 0, locals := 143 } : Room) 0 0 (some .int)) (x1 : Int32) (x2 : Int32) (h : ph_H) (hP : PX11_differ_46  x1 x2 h) (hR : RETi X Y ad n S cX11_differ (FX11_differ_46  x1 x2 h)) : FJ X Y ad n S h 46 [(0, .ref (ad 0)), (1, .int x1), (2, .int x2)] [] := by
  unfold PX11_differ_46 at hP
  unfold FX11_differ_46 at hR
  refine j_aload_n C dX11_differ_46 rfl rfl ?_
  refine j_aload_n C dX11_differ_47 rfl rfl ?_
  refine gCRX11_28 C dX11_differ_48 (W.lt 0 (by decide)) (sh_0 W) rfl ?_
  refine j_iconst (v := 0) C dX11_differ_51 (by decide) ?_
  refine j_iload_n C dX11_differ_52 rfl rfl ?_
  obtain ⟨p5, hP⟩ := hP
  refine j_callVv C (MX11_replay_oc2 W 0 x1 h p5) dX11_differ_53 (CKX11_replay (by decide)) ⟨rfl, rfl⟩ lk_RX11_269 in_X11_replay se_X11_replay (W.lt 0 (by decide)) (sh_0 W) rfl rfl (Nat.le_of_ble_eq_true rfl) ?_
  intro S' h' hq
  obtain ⟨e1, e2⟩ := hq
  rw [e1, e2]
  exact j_vl (tX11_differ_56 W C  x2 (FX11_replay_oc2 0 x1 h) hP hR) ⟨rfl, rfl, trivial⟩
def FX11_differ (a0 : Int32) (a1 : Int32) (h : ph_H) : Int32 × ph_H := if (h 0 8) = 0 then (((-2), h)) else (if (FX11_isMoment a0 h) = 0 then (((-1), h)) else (if (FX11_isMoment a1 h) = 0 then (((-1), h)) else (FX11_differ_46  a0 a1 (FX3_begin_ot (h 8 6) h))))
def PX11_differ (a0 : Int32) (a1 : Int32) (h : ph_H) : Prop := ((h 0 8) = 0 → (True)) ∧ (¬ (h 0 8) = 0 → ((PX11_isMoment a0 h) ∧ (((FX11_isMoment a0 h) = 0 → (True)) ∧ (¬ (FX11_isMoment a0 h) = 0 → ((PX11_isMoment a1 h) ∧ (((FX11_isMoment a1 h) = 0 → (True)) ∧ (¬ (FX11_isMoment a1 h) = 0 → ((PX3_begin_ot (h 8 6) h) ∧ (PX11_differ_46  a0 a1 (FX3_begin_ot (h 8 6) h))))))))))
set_option maxRecDepth 100000 in
set_option maxHeartbeats 4000000 in
theorem tX11_differ {X : fj_X} {Y : fj_Y} {l0 : Launch} {ad : Nat → Nat} {n : Nat} {S : ph_S} {pr : Nat} (W : WS pr n S) (C : FC X Y l0 cX11_differ 3 RX11 ({ frames := 6, cells := 0, slots := 0, locals := 143 } : Room) 0 0 (some .int)) (a0 : Int32) (a1 : Int32) (h : ph_H) (hP : PX11_differ a0 a1 h) (hR : ∀ S', Sp S S' → RETi X Y ad n S' cX11_differ (FX11_differ a0 a1 h)) : FJ X Y ad n S h 0 [(0, .ref (ad 0)), (1, .int a0), (2, .int a1)] [] := by
  unfold PX11_differ at hP
  unfold FX11_differ at hR
  refine j_aload_n C dX11_differ_0 rfl rfl ?_
  refine gCRX11_116 (v := (h 0 8)) C dX11_differ_1 (W.lt 0 (by decide)) (sh_0 W) rfl rfl ?_
  refine j_if_ne (tgt := 10) C dX11_differ_4 (by decide) (fun c0 => ?_) (fun c0 => ?_)
  · have hP := hP.2 c0
    rw [if_neg c0] at hR
    refine j_aload_n C dX11_differ_10 rfl rfl ?_
    refine j_iload_n C dX11_differ_11 rfl rfl ?_
    obtain ⟨p2, hP⟩ := hP
    refine j_callV C (MX11_isMoment W a0 h p2) dX11_differ_12 (CKX11_isMoment (by decide)) ⟨rfl, rfl⟩ lk_RX11_179 in_X11_isMoment se_X11_isMoment (W.lt 0 (by decide)) (sh_0 W) rfl rfl (Nat.le_of_ble_eq_true rfl) ?_
    intro r S' h' hq
    obtain ⟨e1, hh, e3, hb4⟩ := hq
    rw [e1, hh, e3]
    refine j_if_eq (tgt := 26) C dX11_differ_15 (by decide) (fun c1 => ?_) (fun c1 => ?_)
    · have hP := hP.1 c1
      rw [if_pos c1] at hR
      refine j_iconst (v := (-1)) C dX11_differ_26 (by decide) ?_
      exact RETi_u (hR _ (Or.inl rfl)) _ _ dX11_differ_27
    · have hP := hP.2 c1
      rw [if_neg c1] at hR
      refine j_aload_n C dX11_differ_18 rfl rfl ?_
      refine j_iload_n C dX11_differ_19 rfl rfl ?_
      obtain ⟨p2, hP⟩ := hP
      refine j_callV C (MX11_isMoment W a1 h p2) dX11_differ_20 (CKX11_isMoment (by decide)) ⟨rfl, rfl⟩ lk_RX11_179 in_X11_isMoment se_X11_isMoment (W.lt 0 (by decide)) (sh_0 W) rfl rfl (Nat.le_of_ble_eq_true rfl) ?_
      intro r S' h' hq
      obtain ⟨e1, hh, e3, hb4⟩ := hq
      rw [e1, hh, e3]
      refine j_if_ne (tgt := 28) C dX11_differ_23 (by decide) (fun c2 => ?_) (fun c2 => ?_)
      · have hP := hP.2 c2
        rw [if_neg c2] at hR
        refine j_aload_n C dX11_differ_28 rfl rfl ?_
        refine gCRX11_28 C dX11_differ_29 (W.lt 0 (by decide)) (sh_0 W) rfl ?_
        refine j_aload_n C dX11_differ_32 rfl rfl ?_
        refine gCRX11_16 C dX11_differ_33 (W.lt 0 (by decide)) (sh_0 W) rfl ?_
        refine j_aload_n C dX11_differ_36 rfl rfl ?_
        refine gCRX11_16 C dX11_differ_37 (W.lt 0 (by decide)) (sh_0 W) rfl ?_
        refine gCRX11_87 (v := (h 8 6)) C dX11_differ_40 (W.lt 8 (by decide)) (sh_8 W) rfl rfl ?_
        obtain ⟨p7, hP⟩ := hP
        refine j_callVv C (MX3_begin_ot W (h 8 6) h p7) dX11_differ_43 (CKX3_begin (by decide)) ⟨rfl, rfl⟩ lk_RX11_105 in_X3_begin se_X3_begin (W.lt 25 (by decide)) (sh_25 W) rfl rfl (Nat.le_of_ble_eq_true rfl) ?_
        intro S' h' hq
        obtain ⟨e1, e2⟩ := hq
        rw [e1, e2]
        have W := spr_W (p := 8) W
        exact j_vl (tX11_differ_46 W C  a0 a1 (FX3_begin_ot (h 8 6) h) hP (hR _ (Or.inr (Or.inr rfl)))) ⟨rfl, rfl, rfl, trivial⟩
      · have hP := hP.1 c2
        rw [if_pos c2] at hR
        refine j_iconst (v := (-1)) C dX11_differ_26 (by decide) ?_
        exact RETi_u (hR _ (Or.inl rfl)) _ _ dX11_differ_27
  · have hP := hP.1 c0
    rw [if_pos c0] at hR
    refine j_bipush (v := (-2)) C dX11_differ_7 (by decide) ?_
    exact RETi_u (hR _ (Or.inl rfl)) _ _ dX11_differ_9
theorem MX11_differ {l0 : Launch} {Y : fj_Y} {ad : Nat → Nat} {n : Nat} {S : ph_S} {pr : Nat} (W : WS pr n S) (a0 : Int32) (a1 : Int32) (h : ph_H) (hP : PX11_differ a0 a1 h) : MI l0 yX11_differ cX11_differ 3 (some .int) ({ frames := 6, cells := 0, slots := 0, locals := 143 } : Room) Y ad n S h [.ref (ad 0), .int a0, .int a1] (fun r S' h' => Sp S S' ∧ h' = (FX11_differ a0 a1 h).2 ∧ r = (FX11_differ a0 a1 h).1) := met_i (by decide) (Nat.le_of_ble_eq_true rfl) (fun _ _ _ _ => rfl) (fun X C K => j_vl (tX11_differ W C a0 a1 h hP (fun S' hs' => fun pc lv hd => K _ _ _ ⟨hs', rfl, rfl⟩ pc lv hd)) ⟨rfl, rfl, rfl, trivial⟩)

-- X3_rivalsOf_oc1
def FX3_rivalsOf_oc1_28 (L4 : Int32 → Int32 → Int32 → ph_H → Int32) (x1 : Int32) (x2 : Int32) (x3 : Int32) (h : ph_H) : Int32 := L4 x1 x2 (x3 + 1) h
def PX3_rivalsOf_oc1_28 (LP4 : Int32 → Int32 → Int32 → ph_H → Prop) (x1 : Int32) (x2 : Int32) (x3 : Int32) (h : ph_H) : Prop := LP4 x1 x2 (x3 + 1) h
set_option maxRecDepth 100000 in
set_option maxHeartbeats 4000000 in
theorem tX3_rivalsOf_oc1_28 {X : fj_X} {Y : fj_Y} {l0 : Launch} {ad : Nat → Nat} {n : Nat} {S : ph_S} (W : WS 1 n S) (C : FC X Y l0 cX3_rivalsOf 4 RX3 ({ frames := 3, cells := 0, slots := 0, locals := 66 } : Room) 0 0 (some .int)) (h : ph_H) (L4 : Int32 → Int32 → Int32 → ph_H → Int32) (LP4 : Int32 → Int32 → Int32 → ph_H → Prop) (hL4 : ∀ (x1 : Int32) (x2 : Int32) (x3 : Int32), LP4 x1 x2 x3 h → RETp X Y ad n S h cX3_rivalsOf (L4 x1 x2 x3 h) → FJ X Y ad n S h 4 [(0, .ref (ad 25)), (1, .int x1), (2, .int x2), (3, .int x3)] []) (x1 : Int32) (x2 : Int32) (x3 : Int32) (hP : PX3_rivalsOf_oc1_28 LP4 x1 x2 x3 h) (hR : RETp X Y ad n S h cX3_rivalsOf (FX3_rivalsOf_oc1_28 L4 x1 x2 x3 h)) : FJ X Y ad n S h 28 [(0, .ref (ad 25)), (1, .int x1), (2, .int x2), (3, .int x3)] [] := by
  unfold PX3_rivalsOf_oc1_28 at hP
  unfold FX3_rivalsOf_oc1_28 at hR
  refine j_iinc (v := (x3 + 1)) C dX3_rivalsOf_28 rfl rfl (by decide) rfl ?_
  refine j_goto (tgt := 4) C dX3_rivalsOf_31 (by decide) ?_
  exact j_vl (hL4 x1 x2 (x3 + 1) hP hR) ⟨rfl, rfl, rfl, rfl, trivial⟩
def FX3_rivalsOf_oc1_4  : Nat → Int32 → Int32 → Int32 → ph_H → Int32
  | 0, _, _, _, _ => 0
  | q + 1, x1, x2, x3, h => if 4 ≤ x3 then (x2) else (if x3 = x1 then (FX3_rivalsOf_oc1_28 (FX3_rivalsOf_oc1_4  q) x1 x2 x3 h) else (if (FX3_canGo_oc1 x3 h) = 0 then (FX3_rivalsOf_oc1_28 (FX3_rivalsOf_oc1_4  q) x1 x2 x3 h) else (FX3_rivalsOf_oc1_28 (FX3_rivalsOf_oc1_4  q) x1 (x2 ||| (1 <<< (x3 &&& 31))) x3 h)))
def PX3_rivalsOf_oc1_4  : Nat → Int32 → Int32 → Int32 → ph_H → Prop
  | 0, _, _, _, _ => False
  | q + 1, x1, x2, x3, h => (4 ≤ x3 → (True)) ∧ (¬ 4 ≤ x3 → ((x3 = x1 → (PX3_rivalsOf_oc1_28 (PX3_rivalsOf_oc1_4  q) x1 x2 x3 h)) ∧ (¬ x3 = x1 → ((PX3_canGo_oc1 x3 h) ∧ (((FX3_canGo_oc1 x3 h) = 0 → (PX3_rivalsOf_oc1_28 (PX3_rivalsOf_oc1_4  q) x1 x2 x3 h)) ∧ (¬ (FX3_canGo_oc1 x3 h) = 0 → (PX3_rivalsOf_oc1_28 (PX3_rivalsOf_oc1_4  q) x1 (x2 ||| (1 <<< (x3 &&& 31))) x3 h)))))))
set_option maxRecDepth 100000 in
set_option maxHeartbeats 4000000 in
theorem tX3_rivalsOf_oc1_4 {X : fj_X} {Y : fj_Y} {l0 : Launch} {ad : Nat → Nat} {n : Nat} {S : ph_S} (W : WS 1 n S) (C : FC X Y l0 cX3_rivalsOf 4 RX3 ({ frames := 3, cells := 0, slots := 0, locals := 66 } : Room) 0 0 (some .int)) (h : ph_H) : ∀ (q : Nat) (x1 : Int32) (x2 : Int32) (x3 : Int32), PX3_rivalsOf_oc1_4  q x1 x2 x3 h → RETp X Y ad n S h cX3_rivalsOf (FX3_rivalsOf_oc1_4  q x1 x2 x3 h) → FJ X Y ad n S h 4 [(0, .ref (ad 25)), (1, .int x1), (2, .int x2), (3, .int x3)] [] := by
  intro q
  induction q with
  | zero =>
    intro x1 x2 x3 hP hR
    exact absurd hP id
  | succ q ih =>
    intro x1 x2 x3 hP hR
    unfold PX3_rivalsOf_oc1_4 at hP
    unfold FX3_rivalsOf_oc1_4 at hR
    refine j_iload_n C dX3_rivalsOf_4 rfl rfl ?_
    refine j_iconst (v := 4) C dX3_rivalsOf_5 (by decide) ?_
    refine j_icmp_ge (tgt := 34) C dX3_rivalsOf_6 (by decide) (fun c0 => ?_) (fun c0 => ?_)
    · have hP := hP.1 c0
      rw [if_pos c0] at hR
      refine j_iload_n C dX3_rivalsOf_34 rfl rfl ?_
      exact hR _ _ dX3_rivalsOf_35
    · have hP := hP.2 c0
      rw [if_neg c0] at hR
      refine j_iload_n C dX3_rivalsOf_9 rfl rfl ?_
      refine j_iload_n C dX3_rivalsOf_10 rfl rfl ?_
      refine j_icmp_eq (tgt := 28) C dX3_rivalsOf_11 (by decide) (fun c1 => ?_) (fun c1 => ?_)
      · have hP := hP.1 c1
        rw [if_pos c1] at hR
        exact j_vl (tX3_rivalsOf_oc1_28 W C h (FX3_rivalsOf_oc1_4  q) (PX3_rivalsOf_oc1_4  q) (ih) x1 x2 x3 hP hR) ⟨rfl, rfl, rfl, rfl, trivial⟩
      · have hP := hP.2 c1
        rw [if_neg c1] at hR
        refine j_aload_n C dX3_rivalsOf_14 rfl rfl ?_
        refine j_iload_n C dX3_rivalsOf_15 rfl rfl ?_
        obtain ⟨p2, hP⟩ := hP
        refine j_callV C (MX3_canGo_oc1 W x3 h p2) dX3_rivalsOf_16 (CKX3_canGo (by decide)) ⟨rfl, rfl⟩ lk_RX3_92 in_X3_canGo se_X3_canGo (W.lt 25 (by decide)) (sh_25 W) rfl rfl (Nat.le_of_ble_eq_true rfl) ?_
        intro r S' h' hq
        obtain ⟨e1, hh, e3, hb4⟩ := hq
        rw [e1, hh, e3]
        refine j_if_eq (tgt := 28) C dX3_rivalsOf_19 (by decide) (fun c2 => ?_) (fun c2 => ?_)
        · have hP := hP.1 c2
          rw [if_pos c2] at hR
          exact j_vl (tX3_rivalsOf_oc1_28 W C h (FX3_rivalsOf_oc1_4  q) (PX3_rivalsOf_oc1_4  q) (ih) x1 x2 x3 hP hR) ⟨rfl, rfl, rfl, rfl, trivial⟩
        · have hP := hP.2 c2
          rw [if_neg c2] at hR
          refine j_iload_n C dX3_rivalsOf_22 rfl rfl ?_
          refine j_iconst (v := 1) C dX3_rivalsOf_23 (by decide) ?_
          refine j_iload_n C dX3_rivalsOf_24 rfl rfl ?_
          refine j_ishl C dX3_rivalsOf_25 ?_
          refine j_ior C dX3_rivalsOf_26 ?_
          refine j_istore_n C dX3_rivalsOf_27 rfl (by decide) rfl ?_
          exact j_vl (tX3_rivalsOf_oc1_28 W C h (FX3_rivalsOf_oc1_4  q) (PX3_rivalsOf_oc1_4  q) (ih) x1 (x2 ||| (1 <<< (x3 &&& 31))) x3 hP hR) ⟨rfl, rfl, rfl, rfl, trivial⟩
def FX3_rivalsOf_oc1 (a0 : Int32) (h : ph_H) : Int32 := FX3_rivalsOf_oc1_4 2000 a0 0 0 h
def PX3_rivalsOf_oc1 (a0 : Int32) (h : ph_H) : Prop := PX3_rivalsOf_oc1_4 2000 a0 0 0 h
set_option maxRecDepth 100000 in
set_option maxHeartbeats 4000000 in
theorem tX3_rivalsOf_oc1 {X : fj_X} {Y : fj_Y} {l0 : Launch} {ad : Nat → Nat} {n : Nat} {S : ph_S} (W : WS 1 n S) (C : FC X Y l0 cX3_rivalsOf 4 RX3 ({ frames := 3, cells := 0, slots := 0, locals := 66 } : Room) 0 0 (some .int)) (a0 : Int32) (h : ph_H) (hP : PX3_rivalsOf_oc1 a0 h) (hR : RETp X Y ad n S h cX3_rivalsOf (FX3_rivalsOf_oc1 a0 h)) : FJ X Y ad n S h 0 [(0, .ref (ad 25)), (1, .int a0)] [] := by
  unfold PX3_rivalsOf_oc1 at hP
  unfold FX3_rivalsOf_oc1 at hR
  refine j_iconst (v := 0) C dX3_rivalsOf_0 (by decide) ?_
  refine j_istore_n C dX3_rivalsOf_1 rfl (by decide) rfl ?_
  refine j_iconst (v := 0) C dX3_rivalsOf_2 (by decide) ?_
  refine j_istore_n C dX3_rivalsOf_3 rfl (by decide) rfl ?_
  exact j_vl (tX3_rivalsOf_oc1_4 W C h 2000 a0 0 0 hP hR) ⟨rfl, rfl, rfl, rfl, trivial⟩
theorem MX3_rivalsOf_oc1 {l0 : Launch} {Y : fj_Y} {ad : Nat → Nat} {n : Nat} {S : ph_S} (W : WS 1 n S) (a0 : Int32) (h : ph_H) (hP : PX3_rivalsOf_oc1 a0 h) : MI l0 yX3_rivalsOf cX3_rivalsOf 4 (some .int) ({ frames := 3, cells := 0, slots := 0, locals := 66 } : Room) Y ad n S h [.ref (ad 25), .int a0] (fun r S' h' => S' = S ∧ h' = h ∧ r = FX3_rivalsOf_oc1 a0 h) := met_i (by decide) (Nat.le_of_ble_eq_true rfl) (fun _ _ _ _ => rfl) (fun X C K => j_vl (tX3_rivalsOf_oc1 W C a0 h hP (fun pc lv hd => K _ _ _ ⟨rfl, rfl, rfl⟩ pc lv hd)) ⟨rfl, rfl, trivial⟩)

-- X6_chosen
def FX6_chosen_2  : Nat → Int32 → Int32 → ph_H → Int32
  | 0, _, _, _ => 0
  | q + 1, x1, x2, h => if (h 52 6) ≤ x2 then (x1) else (if 2 ≤ x2 then (x1) else (if (h 54 (x2.toNatClampNeg)) = (h 52 7) then ((h 55 (x2.toNatClampNeg))) else (FX6_chosen_2  q x1 (x2 + 1) h)))
def PX6_chosen_2  : Nat → Int32 → Int32 → ph_H → Prop
  | 0, _, _, _ => False
  | q + 1, x1, x2, h => ((h 52 6) ≤ x2 → (True)) ∧ (¬ (h 52 6) ≤ x2 → ((2 ≤ x2 → (True)) ∧ (¬ 2 ≤ x2 → (vp_in x2 2 ∧ (((h 54 (x2.toNatClampNeg)) = (h 52 7) → (vp_in x2 2 ∧ (True))) ∧ (¬ (h 54 (x2.toNatClampNeg)) = (h 52 7) → (PX6_chosen_2  q x1 (x2 + 1) h)))))))
set_option maxRecDepth 100000 in
set_option maxHeartbeats 4000000 in
theorem tX6_chosen_2 {X : fj_X} {Y : fj_Y} {l0 : Launch} {ad : Nat → Nat} {n : Nat} {S : ph_S} {pr : Nat} (W : WS pr n S) (C : FC X Y l0 cX6_chosen 3 RX6 ({ frames := 0, cells := 0, slots := 0, locals := 0 } : Room) 0 0 (some .int)) (h : ph_H) : ∀ (q : Nat) (x1 : Int32) (x2 : Int32), PX6_chosen_2  q x1 x2 h → RETp X Y ad n S h cX6_chosen (FX6_chosen_2  q x1 x2 h) → FJ X Y ad n S h 2 [(0, .ref (ad 52)), (1, .int x1), (2, .int x2)] [] := by
  intro q
  induction q with
  | zero =>
    intro x1 x2 hP hR
    exact absurd hP id
  | succ q ih =>
    intro x1 x2 hP hR
    unfold PX6_chosen_2 at hP
    unfold FX6_chosen_2 at hR
    refine j_iload_n C dX6_chosen_2 rfl rfl ?_
    refine j_aload_n C dX6_chosen_3 rfl rfl ?_
    refine gCRX6_34 (v := (h 52 6)) C dX6_chosen_4 (W.lt 52 (by decide)) (sh_52 W) rfl rfl ?_
    refine j_icmp_ge (tgt := 41) C dX6_chosen_7 (by decide) (fun c0 => ?_) (fun c0 => ?_)
    · have hP := hP.1 c0
      rw [if_pos c0] at hR
      refine j_iload_n C dX6_chosen_41 rfl rfl ?_
      exact hR _ _ dX6_chosen_42
    · have hP := hP.2 c0
      rw [if_neg c0] at hR
      refine j_iload_n C dX6_chosen_10 rfl rfl ?_
      refine j_iconst (v := 2) C dX6_chosen_11 (by decide) ?_
      refine j_icmp_ge (tgt := 41) C dX6_chosen_12 (by decide) (fun c1 => ?_) (fun c1 => ?_)
      · have hP := hP.1 c1
        rw [if_pos c1] at hR
        refine j_iload_n C dX6_chosen_41 rfl rfl ?_
        exact hR _ _ dX6_chosen_42
      · have hP := hP.2 c1
        rw [if_neg c1] at hR
        refine j_aload_n C dX6_chosen_15 rfl rfl ?_
        refine gCRX6_20 C dX6_chosen_16 (W.lt 52 (by decide)) (sh_52 W) rfl ?_
        refine j_iload_n C dX6_chosen_19 rfl rfl ?_
        obtain ⟨p3, hP⟩ := hP
        refine j_iald (k := 54) (v := (h 54 (x2.toNatClampNeg))) C dX6_chosen_20 (W.lt 54 (by decide)) (sh_54 W) p3 rfl ?_
        refine j_aload_n C dX6_chosen_21 rfl rfl ?_
        refine gCRX6_79 (v := (h 52 7)) C dX6_chosen_22 (W.lt 52 (by decide)) (sh_52 W) rfl rfl ?_
        refine j_icmp_ne (tgt := 35) C dX6_chosen_25 (by decide) (fun c2 => ?_) (fun c2 => ?_)
        · have hP := hP.2 c2
          rw [if_neg c2] at hR
          refine j_iinc (v := (x2 + 1)) C dX6_chosen_35 rfl rfl (by decide) rfl ?_
          refine j_goto (tgt := 2) C dX6_chosen_38 (by decide) ?_
          exact j_vl (ih x1 (x2 + 1) hP hR) ⟨rfl, rfl, rfl, trivial⟩
        · have hP := hP.1 c2
          rw [if_pos c2] at hR
          refine j_aload_n C dX6_chosen_28 rfl rfl ?_
          refine gCRX6_23 C dX6_chosen_29 (W.lt 52 (by decide)) (sh_52 W) rfl ?_
          refine j_iload_n C dX6_chosen_32 rfl rfl ?_
          obtain ⟨p3, hP⟩ := hP
          refine j_iald (k := 55) (v := (h 55 (x2.toNatClampNeg))) C dX6_chosen_33 (W.lt 55 (by decide)) (sh_55 W) p3 rfl ?_
          exact hR _ _ dX6_chosen_34
def FX6_chosen (a0 : Int32) (h : ph_H) : Int32 := FX6_chosen_2 2000 a0 0 h
def PX6_chosen (a0 : Int32) (h : ph_H) : Prop := PX6_chosen_2 2000 a0 0 h
set_option maxRecDepth 100000 in
set_option maxHeartbeats 4000000 in
theorem tX6_chosen {X : fj_X} {Y : fj_Y} {l0 : Launch} {ad : Nat → Nat} {n : Nat} {S : ph_S} {pr : Nat} (W : WS pr n S) (C : FC X Y l0 cX6_chosen 3 RX6 ({ frames := 0, cells := 0, slots := 0, locals := 0 } : Room) 0 0 (some .int)) (a0 : Int32) (h : ph_H) (hP : PX6_chosen a0 h) (hR : RETp X Y ad n S h cX6_chosen (FX6_chosen a0 h)) : FJ X Y ad n S h 0 [(0, .ref (ad 52)), (1, .int a0)] [] := by
  unfold PX6_chosen at hP
  unfold FX6_chosen at hR
  refine j_iconst (v := 0) C dX6_chosen_0 (by decide) ?_
  refine j_istore_n C dX6_chosen_1 rfl (by decide) rfl ?_
  exact j_vl (tX6_chosen_2 W C h 2000 a0 0 hP hR) ⟨rfl, rfl, rfl, trivial⟩
theorem MX6_chosen {l0 : Launch} {Y : fj_Y} {ad : Nat → Nat} {n : Nat} {S : ph_S} {pr : Nat} (W : WS pr n S) (a0 : Int32) (h : ph_H) (hP : PX6_chosen a0 h) : MI l0 yX6_chosen cX6_chosen 3 (some .int) ({ frames := 0, cells := 0, slots := 0, locals := 0 } : Room) Y ad n S h [.ref (ad 52), .int a0] (fun r S' h' => S' = S ∧ h' = h ∧ r = FX6_chosen a0 h) := met_i (by decide) (Nat.le_of_ble_eq_true rfl) (fun _ _ _ _ => rfl) (fun X C K => j_vl (tX6_chosen W C a0 h hP (fun pc lv hd => K _ _ _ ⟨rfl, rfl, rfl⟩ pc lv hd)) ⟨rfl, rfl, trivial⟩)

-- X6_goThrough
def FX6_goThrough_97 (L37 : Int32 → Int32 → ph_H → ph_H) (x1 : Int32) (x2 : Int32) (s0 : Int32) (h : ph_H) : ph_H := L37 x1 (FX3_whoGoes_oc1 x2 (hs h 52 8 s0)) (hs (hs h 52 8 s0) 52 7 ((h 52 7) + 1))
def PX6_goThrough_97 (LP37 : Int32 → Int32 → ph_H → Prop) (x1 : Int32) (x2 : Int32) (s0 : Int32) (h : ph_H) : Prop := (PX3_whoGoes_oc1 x2 (hs h 52 8 s0)) ∧ (LP37 x1 (FX3_whoGoes_oc1 x2 (hs h 52 8 s0)) (hs (hs h 52 8 s0) 52 7 ((h 52 7) + 1)))
set_option maxRecDepth 100000 in
set_option maxHeartbeats 4000000 in
theorem tX6_goThrough_97 {X : fj_X} {Y : fj_Y} {l0 : Launch} {ad : Nat → Nat} {n : Nat} {S : ph_S} (W : WS 1 n S) (C : FC X Y l0 cX6_goThrough 3 RX6 ({ frames := 4, cells := 0, slots := 0, locals := 98 } : Room) 0 0 none) (L37 : Int32 → Int32 → ph_H → ph_H) (LP37 : Int32 → Int32 → ph_H → Prop) (hL37 : ∀ (x1 : Int32) (x2 : Int32) (h : ph_H), LP37 x1 x2 h → RETv X Y ad n S cX6_goThrough (L37 x1 x2 h) → FJ X Y ad n S h 37 [(0, .ref (ad 52)), (1, .int x1), (2, .int x2)] []) (x1 : Int32) (x2 : Int32) (s0 : Int32) (h : ph_H) (hP : PX6_goThrough_97 LP37 x1 x2 s0 h) (hR : RETv X Y ad n S cX6_goThrough (FX6_goThrough_97 L37 x1 x2 s0 h)) : FJ X Y ad n S h 97 [(0, .ref (ad 52)), (1, .int x1), (2, .int x2)] [.int s0, .ref (ad 52)] := by
  unfold PX6_goThrough_97 at hP
  unfold FX6_goThrough_97 at hR
  refine pCRX6_45 C dX6_goThrough_97 (W.lt 52 (by decide)) (sh_52 W) rfl ?_
  refine j_aload_n C dX6_goThrough_100 rfl rfl ?_
  refine gCRX6_30 C dX6_goThrough_101 (W.lt 52 (by decide)) (sh_52 W) rfl ?_
  refine j_iload_n C dX6_goThrough_104 rfl rfl ?_
  obtain ⟨p4, hP⟩ := hP
  refine j_callV C (MX3_whoGoes_oc1 W x2 (hs h 52 8 s0) p4) dX6_goThrough_105 (CKX3_whoGoes (by decide)) ⟨rfl, rfl⟩ lk_RX6_75 in_X3_whoGoes se_X3_whoGoes (W.lt 25 (by decide)) (sh_25 W) rfl rfl (Nat.le_of_ble_eq_true rfl) ?_
  intro r S' h' hq
  obtain ⟨e1, hh, e3⟩ := hq
  rw [e1, hh, e3]
  refine j_istore_n C dX6_goThrough_108 rfl (by decide) rfl ?_
  refine j_aload_n C dX6_goThrough_109 rfl rfl ?_
  refine j_dup C dX6_goThrough_110 rfl ?_
  refine gCRX6_79 (v := (h 52 7)) C dX6_goThrough_111 (W.lt 52 (by decide)) (sh_52 W) rfl (hz_i (by decide)) ?_
  refine j_iconst (v := 1) C dX6_goThrough_114 (by decide) ?_
  refine j_iadd C dX6_goThrough_115 ?_
  refine pCRX6_79 C dX6_goThrough_116 (W.lt 52 (by decide)) (sh_52 W) rfl ?_
  refine j_goto (tgt := 37) C dX6_goThrough_119 (by decide) ?_
  exact j_vl (hL37 x1 (FX3_whoGoes_oc1 x2 (hs h 52 8 s0)) (hs (hs h 52 8 s0) 52 7 ((h 52 7) + 1)) hP hR) ⟨rfl, rfl, rfl, trivial⟩
def FX6_goThrough_82 (L37 : Int32 → Int32 → ph_H → ph_H) (x1 : Int32) (x2 : Int32) (h : ph_H) : ph_H := FX6_goThrough_97 L37 x1 (FX6_chosen x2 h) ((FX3_go_oc1 (FX6_chosen x2 h) h).1) ((FX3_go_oc1 (FX6_chosen x2 h) h).2)
def PX6_goThrough_82 (LP37 : Int32 → Int32 → ph_H → Prop) (x1 : Int32) (x2 : Int32) (h : ph_H) : Prop := (PX6_chosen x2 h) ∧ ((PX3_go_oc1 (FX6_chosen x2 h) h) ∧ (PX6_goThrough_97 LP37 x1 (FX6_chosen x2 h) ((FX3_go_oc1 (FX6_chosen x2 h) h).1) ((FX3_go_oc1 (FX6_chosen x2 h) h).2)))
set_option maxRecDepth 100000 in
set_option maxHeartbeats 4000000 in
theorem tX6_goThrough_82 {X : fj_X} {Y : fj_Y} {l0 : Launch} {ad : Nat → Nat} {n : Nat} {S : ph_S} (W : WS 1 n S) (C : FC X Y l0 cX6_goThrough 3 RX6 ({ frames := 4, cells := 0, slots := 0, locals := 98 } : Room) 0 0 none) (L37 : Int32 → Int32 → ph_H → ph_H) (LP37 : Int32 → Int32 → ph_H → Prop) (hL37 : ∀ (x1 : Int32) (x2 : Int32) (h : ph_H), LP37 x1 x2 h → RETv X Y ad n S cX6_goThrough (L37 x1 x2 h) → FJ X Y ad n S h 37 [(0, .ref (ad 52)), (1, .int x1), (2, .int x2)] []) (x1 : Int32) (x2 : Int32) (h : ph_H) (hP : PX6_goThrough_82 LP37 x1 x2 h) (hR : RETv X Y ad n S cX6_goThrough (FX6_goThrough_82 L37 x1 x2 h)) : FJ X Y ad n S h 82 [(0, .ref (ad 52)), (1, .int x1), (2, .int x2)] [] := by
  unfold PX6_goThrough_82 at hP
  unfold FX6_goThrough_82 at hR
  refine j_aload_n C dX6_goThrough_82 rfl rfl ?_
  refine j_iload_n C dX6_goThrough_83 rfl rfl ?_
  obtain ⟨p2, hP⟩ := hP
  refine j_callV C (MX6_chosen W x2 h p2) dX6_goThrough_84 (CKX6_chosen (by decide)) ⟨rfl, rfl⟩ lk_RX6_85 in_X6_chosen se_X6_chosen (W.lt 52 (by decide)) (sh_52 W) rfl rfl (Nat.le_of_ble_eq_true rfl) ?_
  intro r S' h' hq
  obtain ⟨e1, hh, e3⟩ := hq
  rw [e1, hh, e3]
  refine j_istore_n C dX6_goThrough_87 rfl (by decide) rfl ?_
  refine j_aload_n C dX6_goThrough_88 rfl rfl ?_
  refine j_aload_n C dX6_goThrough_89 rfl rfl ?_
  refine gCRX6_30 C dX6_goThrough_90 (W.lt 52 (by decide)) (sh_52 W) rfl ?_
  refine j_iload_n C dX6_goThrough_93 rfl rfl ?_
  obtain ⟨p12, hP⟩ := hP
  refine j_callV C (MX3_go_oc1 W (FX6_chosen x2 h) h p12) dX6_goThrough_94 (CKX3_go (by decide)) ⟨rfl, rfl⟩ lk_RX6_88 in_X3_go se_X3_go (W.lt 25 (by decide)) (sh_25 W) rfl rfl (Nat.le_of_ble_eq_true rfl) ?_
  intro r S' h' hq
  obtain ⟨e1, e2, e3⟩ := hq
  rw [e1, e2, e3]
  exact j_vl (tX6_goThrough_97 W C L37 LP37 hL37 x1 (FX6_chosen x2 h) ((FX3_go_oc1 (FX6_chosen x2 h) h).1) ((FX3_go_oc1 (FX6_chosen x2 h) h).2) hP hR) ⟨rfl, rfl, rfl, trivial⟩
def FX6_goThrough_122  (x1 : Int32) (h : ph_H) : ph_H := if x1 = (-1) then (h) else ((hs h 53 x1.toNatClampNeg (h 52 7)))
def PX6_goThrough_122  (x1 : Int32) (h : ph_H) : Prop := (x1 = (-1) → (True)) ∧ (¬ x1 = (-1) → (vp_in x1 2 ∧ (True)))
set_option maxRecDepth 100000 in
set_option maxHeartbeats 4000000 in
theorem tX6_goThrough_122 {X : fj_X} {Y : fj_Y} {l0 : Launch} {ad : Nat → Nat} {n : Nat} {S : ph_S} (W : WS 1 n S) (C : FC X Y l0 cX6_goThrough 3 RX6 ({ frames := 4, cells := 0, slots := 0, locals := 98 } : Room) 0 0 none) (x1 : Int32) (h : ph_H) (hP : PX6_goThrough_122  x1 h) (hR : RETv X Y ad n S cX6_goThrough (FX6_goThrough_122  x1 h)) : FJ X Y ad n S h 122 [(0, .ref (ad 52)), (1, .int x1)] [] := by
  unfold PX6_goThrough_122 at hP
  unfold FX6_goThrough_122 at hR
  refine j_iload_n C dX6_goThrough_122 rfl rfl ?_
  refine j_iconst (v := (-1)) C dX6_goThrough_123 (by decide) ?_
  refine j_icmp_eq (tgt := 137) C dX6_goThrough_124 (by decide) (fun c0 => ?_) (fun c0 => ?_)
  · have hP := hP.1 c0
    rw [if_pos c0] at hR
    exact hR _ _ dX6_goThrough_137
  · have hP := hP.2 c0
    rw [if_neg c0] at hR
    refine j_aload_n C dX6_goThrough_127 rfl rfl ?_
    refine gCRX6_16 C dX6_goThrough_128 (W.lt 52 (by decide)) (sh_52 W) rfl ?_
    refine j_iload_n C dX6_goThrough_131 rfl rfl ?_
    refine j_aload_n C dX6_goThrough_132 rfl rfl ?_
    refine gCRX6_79 (v := (h 52 7)) C dX6_goThrough_133 (W.lt 52 (by decide)) (sh_52 W) rfl rfl ?_
    obtain ⟨p5, hP⟩ := hP
    refine j_iast (k := 53) C dX6_goThrough_136 (W.lt 53 (by decide)) (sh_53 W) p5 ?_
    exact hR _ _ dX6_goThrough_137
def FX6_goThrough_37  : Nat → Int32 → Int32 → ph_H → ph_H
  | 0, _, _, h => h
  | q + 1, x1, x2, h => if 300 ≤ (h 52 7) then (FX6_goThrough_122  x1 h) else (if x2 < 0 then (FX6_goThrough_122  x1 h) else (if (h 52 8) = 0 then (if x1 = (-1) then (FX6_goThrough_82 (FX6_goThrough_37  q) x1 x2 h) else (FX6_goThrough_82 (FX6_goThrough_37  q) x1 x2 (hs h (57 + x1.toNatClampNeg) (h 52 7).toNatClampNeg (FX3_rivalsOf_oc1 x2 h)))) else (FX6_goThrough_122  x1 h)))
def PX6_goThrough_37  : Nat → Int32 → Int32 → ph_H → Prop
  | 0, _, _, _ => False
  | q + 1, x1, x2, h => (300 ≤ (h 52 7) → (PX6_goThrough_122  x1 h)) ∧ (¬ 300 ≤ (h 52 7) → ((x2 < 0 → (PX6_goThrough_122  x1 h)) ∧ (¬ x2 < 0 → (((h 52 8) = 0 → ((x1 = (-1) → (PX6_goThrough_82 (PX6_goThrough_37  q) x1 x2 h)) ∧ (¬ x1 = (-1) → (vp_in x1 2 ∧ ((PX3_rivalsOf_oc1 x2 h) ∧ (vp_in (h 52 7) 300 ∧ (PX6_goThrough_82 (PX6_goThrough_37  q) x1 x2 (hs h (57 + x1.toNatClampNeg) (h 52 7).toNatClampNeg (FX3_rivalsOf_oc1 x2 h))))))))) ∧ (¬ (h 52 8) = 0 → (PX6_goThrough_122  x1 h))))))
set_option maxRecDepth 100000 in
set_option maxHeartbeats 4000000 in
theorem tX6_goThrough_37 {X : fj_X} {Y : fj_Y} {l0 : Launch} {ad : Nat → Nat} {n : Nat} {S : ph_S} (W : WS 1 n S) (C : FC X Y l0 cX6_goThrough 3 RX6 ({ frames := 4, cells := 0, slots := 0, locals := 98 } : Room) 0 0 none) : ∀ (q : Nat) (x1 : Int32) (x2 : Int32) (h : ph_H), PX6_goThrough_37  q x1 x2 h → RETv X Y ad n S cX6_goThrough (FX6_goThrough_37  q x1 x2 h) → FJ X Y ad n S h 37 [(0, .ref (ad 52)), (1, .int x1), (2, .int x2)] [] := by
  intro q
  induction q with
  | zero =>
    intro x1 x2 h hP hR
    exact absurd hP id
  | succ q ih =>
    intro x1 x2 h hP hR
    unfold PX6_goThrough_37 at hP
    unfold FX6_goThrough_37 at hR
    refine j_aload_n C dX6_goThrough_37 rfl rfl ?_
    refine gCRX6_79 (v := (h 52 7)) C dX6_goThrough_38 (W.lt 52 (by decide)) (sh_52 W) rfl rfl ?_
    refine j_sipush (v := 300) C dX6_goThrough_41 (by decide) ?_
    refine j_icmp_ge (tgt := 122) C dX6_goThrough_44 (by decide) (fun c0 => ?_) (fun c0 => ?_)
    · have hP := hP.1 c0
      rw [if_pos c0] at hR
      exact j_vl (tX6_goThrough_122 W C  x1 h hP hR) ⟨rfl, rfl, trivial⟩
    · have hP := hP.2 c0
      rw [if_neg c0] at hR
      refine j_iload_n C dX6_goThrough_47 rfl rfl ?_
      refine j_if_lt (tgt := 122) C dX6_goThrough_48 (by decide) (fun c1 => ?_) (fun c1 => ?_)
      · have hP := hP.1 c1
        rw [if_pos c1] at hR
        exact j_vl (tX6_goThrough_122 W C  x1 h hP hR) ⟨rfl, rfl, trivial⟩
      · have hP := hP.2 c1
        rw [if_neg c1] at hR
        refine j_aload_n C dX6_goThrough_51 rfl rfl ?_
        refine gCRX6_45 (v := (h 52 8)) C dX6_goThrough_52 (W.lt 52 (by decide)) (sh_52 W) rfl rfl ?_
        refine j_if_ne (tgt := 122) C dX6_goThrough_55 (by decide) (fun c2 => ?_) (fun c2 => ?_)
        · have hP := hP.2 c2
          rw [if_neg c2] at hR
          exact j_vl (tX6_goThrough_122 W C  x1 h hP hR) ⟨rfl, rfl, trivial⟩
        · have hP := hP.1 c2
          rw [if_pos c2] at hR
          refine j_iload_n C dX6_goThrough_58 rfl rfl ?_
          refine j_iconst (v := (-1)) C dX6_goThrough_59 (by decide) ?_
          refine j_icmp_eq (tgt := 82) C dX6_goThrough_60 (by decide) (fun c3 => ?_) (fun c3 => ?_)
          · have hP := hP.1 c3
            rw [if_pos c3] at hR
            exact j_vl (tX6_goThrough_82 W C (FX6_goThrough_37  q) (PX6_goThrough_37  q) (ih) x1 x2 h hP hR) ⟨rfl, rfl, rfl, trivial⟩
          · have hP := hP.2 c3
            rw [if_neg c3] at hR
            refine j_aload_n C dX6_goThrough_63 rfl rfl ?_
            refine gCRX6_11 C dX6_goThrough_64 (W.lt 52 (by decide)) (sh_52 W) rfl ?_
            refine j_iload_n C dX6_goThrough_67 rfl rfl ?_
            obtain ⟨p3, hP⟩ := hP
            refine j_aald (r := (57 + x1.toNatClampNeg)) C dX6_goThrough_68 (W.lt 56 (by decide)) (sh_56 W) p3 (opg p3) ?_
            refine j_aload_n C dX6_goThrough_69 rfl rfl ?_
            refine gCRX6_79 (v := (h 52 7)) C dX6_goThrough_70 (W.lt 52 (by decide)) (sh_52 W) rfl rfl ?_
            refine j_aload_n C dX6_goThrough_73 rfl rfl ?_
            refine gCRX6_30 C dX6_goThrough_74 (W.lt 52 (by decide)) (sh_52 W) rfl ?_
            refine j_iload_n C dX6_goThrough_77 rfl rfl ?_
            obtain ⟨p10, hP⟩ := hP
            refine j_callV C (MX3_rivalsOf_oc1 W x2 h p10) dX6_goThrough_78 (CKX3_rivalsOf (by decide)) ⟨rfl, rfl⟩ lk_RX6_82 in_X3_rivalsOf se_X3_rivalsOf (W.lt 25 (by decide)) (sh_25 W) rfl rfl (Nat.le_of_ble_eq_true rfl) ?_
            intro r S' h' hq
            obtain ⟨e1, hh, e3⟩ := hq
            rw [e1, hh, e3]
            obtain ⟨p15, hP⟩ := hP
            refine j_iast (k := (57 + x1.toNatClampNeg)) C dX6_goThrough_81 (op_lt W p3) (op_sh W p3) p15 ?_
            exact j_vl (tX6_goThrough_82 W C (FX6_goThrough_37  q) (PX6_goThrough_37  q) (ih) x1 x2 (hs h (57 + x1.toNatClampNeg) (h 52 7).toNatClampNeg (FX3_rivalsOf_oc1 x2 h)) hP hR) ⟨rfl, rfl, rfl, trivial⟩
def FX6_goThrough_18  (x1 : Int32) (h : ph_H) : ph_H := FX6_goThrough_37 2000 x1 (FX3_whoGoes_oc1 0 h) (hs (hs h 52 8 0) 52 7 0)
def PX6_goThrough_18  (x1 : Int32) (h : ph_H) : Prop := (PX3_whoGoes_oc1 0 h) ∧ (PX6_goThrough_37 2000 x1 (FX3_whoGoes_oc1 0 h) (hs (hs h 52 8 0) 52 7 0))
set_option maxRecDepth 100000 in
set_option maxHeartbeats 4000000 in
theorem tX6_goThrough_18 {X : fj_X} {Y : fj_Y} {l0 : Launch} {ad : Nat → Nat} {n : Nat} {S : ph_S} (W : WS 1 n S) (C : FC X Y l0 cX6_goThrough 3 RX6 ({ frames := 4, cells := 0, slots := 0, locals := 98 } : Room) 0 0 none) (x1 : Int32) (h : ph_H) (hP : PX6_goThrough_18  x1 h) (hR : RETv X Y ad n S cX6_goThrough (FX6_goThrough_18  x1 h)) : FJ X Y ad n S h 18 [(0, .ref (ad 52)), (1, .int x1)] [] := by
  unfold PX6_goThrough_18 at hP
  unfold FX6_goThrough_18 at hR
  refine j_aload_n C dX6_goThrough_18 rfl rfl ?_
  refine gCRX6_30 C dX6_goThrough_19 (W.lt 52 (by decide)) (sh_52 W) rfl ?_
  refine j_iconst (v := 0) C dX6_goThrough_22 (by decide) ?_
  obtain ⟨p3, hP⟩ := hP
  refine j_callV C (MX3_whoGoes_oc1 W 0 h p3) dX6_goThrough_23 (CKX3_whoGoes (by decide)) ⟨rfl, rfl⟩ lk_RX6_75 in_X3_whoGoes se_X3_whoGoes (W.lt 25 (by decide)) (sh_25 W) rfl rfl (Nat.le_of_ble_eq_true rfl) ?_
  intro r S' h' hq
  obtain ⟨e1, hh, e3⟩ := hq
  rw [e1, hh, e3]
  refine j_istore_n C dX6_goThrough_26 rfl (by decide) rfl ?_
  refine j_aload_n C dX6_goThrough_27 rfl rfl ?_
  refine j_iconst (v := 0) C dX6_goThrough_28 (by decide) ?_
  refine pCRX6_45 C dX6_goThrough_29 (W.lt 52 (by decide)) (sh_52 W) rfl ?_
  refine j_aload_n C dX6_goThrough_32 rfl rfl ?_
  refine j_iconst (v := 0) C dX6_goThrough_33 (by decide) ?_
  refine pCRX6_79 C dX6_goThrough_34 (W.lt 52 (by decide)) (sh_52 W) rfl ?_
  exact j_vl (tX6_goThrough_37 W C 2000 x1 (FX3_whoGoes_oc1 0 h) (hs (hs h 52 8 0) 52 7 0) hP hR) ⟨rfl, rfl, rfl, trivial⟩
def FX6_goThrough (a0 : Int32) (h : ph_H) : ph_H := FX6_goThrough_18  a0 (FX3_begin_on (h 1 6) h)
def PX6_goThrough (a0 : Int32) (h : ph_H) : Prop := (PX3_begin_on (h 1 6) h) ∧ (PX6_goThrough_18  a0 (FX3_begin_on (h 1 6) h))
set_option maxRecDepth 100000 in
set_option maxHeartbeats 4000000 in
theorem tX6_goThrough {X : fj_X} {Y : fj_Y} {l0 : Launch} {ad : Nat → Nat} {n : Nat} {S : ph_S} {pr : Nat} (W : WS pr n S) (C : FC X Y l0 cX6_goThrough 3 RX6 ({ frames := 4, cells := 0, slots := 0, locals := 98 } : Room) 0 0 none) (a0 : Int32) (h : ph_H) (hP : PX6_goThrough a0 h) (hR : RETv X Y ad n (spr S 1) cX6_goThrough (FX6_goThrough a0 h)) : FJ X Y ad n S h 0 [(0, .ref (ad 52)), (1, .int a0)] [] := by
  unfold PX6_goThrough at hP
  unfold FX6_goThrough at hR
  refine j_aload_n C dX6_goThrough_0 rfl rfl ?_
  refine gCRX6_30 C dX6_goThrough_1 (W.lt 52 (by decide)) (sh_52 W) rfl ?_
  refine j_aload_n C dX6_goThrough_4 rfl rfl ?_
  refine gCRX6_26 C dX6_goThrough_5 (W.lt 52 (by decide)) (sh_52 W) rfl ?_
  refine j_aload_n C dX6_goThrough_8 rfl rfl ?_
  refine gCRX6_26 C dX6_goThrough_9 (W.lt 52 (by decide)) (sh_52 W) rfl ?_
  refine gCRX6_64 (v := (h 1 6)) C dX6_goThrough_12 (W.lt 1 (by decide)) (sh_1 W) rfl rfl ?_
  obtain ⟨p7, hP⟩ := hP
  refine j_callVv C (MX3_begin_on W (h 1 6) h p7) dX6_goThrough_15 (CKX3_begin (by decide)) ⟨rfl, rfl⟩ lk_RX6_69 in_X3_begin se_X3_begin (W.lt 25 (by decide)) (sh_25 W) rfl rfl (Nat.le_of_ble_eq_true rfl) ?_
  intro S' h' hq
  obtain ⟨e1, e2⟩ := hq
  rw [e1, e2]
  have W := spr_W (p := 1) W
  exact j_vl (tX6_goThrough_18 W C  a0 (FX3_begin_on (h 1 6) h) hP hR) ⟨rfl, rfl, trivial⟩
theorem MX6_goThrough {l0 : Launch} {Y : fj_Y} {ad : Nat → Nat} {n : Nat} {S : ph_S} {pr : Nat} (W : WS pr n S) (a0 : Int32) (h : ph_H) (hP : PX6_goThrough a0 h) : MV l0 yX6_goThrough cX6_goThrough 3 ({ frames := 4, cells := 0, slots := 0, locals := 98 } : Room) Y ad n S h [.ref (ad 52), .int a0] (fun S' h' => S' = spr S 1 ∧ h' = FX6_goThrough a0 h) := met_v (by decide) (Nat.le_of_ble_eq_true rfl) (fun X C K => j_vl (tX6_goThrough W C a0 h hP (fun pc lv hd => K _ _ ⟨rfl, rfl⟩ pc lv hd)) ⟨rfl, rfl, trivial⟩)
