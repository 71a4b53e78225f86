-- X3_begin_onc1
def FX3_begin_onc1_52  (x2 : Int32) (h : ph_H) : ph_H := (hs (hs (hs (hs h 29 (0 : Int32).toNatClampNeg 1) 25 10 0) 25 11 x2) 25 12 0)
def PX3_begin_onc1_52  (x2 : Int32) (h : ph_H) : Prop := vp_in 0 4 ∧ (True)
set_option maxRecDepth 100000 in
set_option maxHeartbeats 4000000 in
theorem tX3_begin_onc1_52 {X : fj_X} {Y : fj_Y} {l0 : Launch} {ad : Nat → Nat} {n : Nat} {S : ph_S} (W : WS 1 n S) (C : FC X Y l0 cX3_begin 3 RX3 ({ frames := 1, cells := 0, slots := 0, locals := 26 } : Room) 0 0 none) (x2 : Int32) (h : ph_H) (hP : PX3_begin_onc1_52  x2 h) (hR : RETv X Y ad n S cX3_begin (FX3_begin_onc1_52  x2 h)) : FJ X Y ad n S h 52 [(0, .ref (ad 25)), (2, .int x2)] [] := by
  unfold PX3_begin_onc1_52 at hP
  unfold FX3_begin_onc1_52 at hR
  refine j_aload_n C dX3_begin_52 rfl rfl ?_
  refine gCRX3_21 C dX3_begin_53 (W.lt 25 (by decide)) (sh_25 W) rfl ?_
  refine j_iconst (v := 0) C dX3_begin_56 (by decide) ?_
  refine j_iconst (v := 1) C dX3_begin_57 (by decide) ?_
  obtain ⟨p4, hP⟩ := hP
  refine j_iast (k := 29) C dX3_begin_58 (W.lt 29 (by decide)) (sh_29 W) p4 ?_
  refine j_aload_n C dX3_begin_59 rfl rfl ?_
  refine j_iconst (v := 0) C dX3_begin_60 (by decide) ?_
  refine pCRX3_60 C dX3_begin_61 (W.lt 25 (by decide)) (sh_25 W) rfl ?_
  refine j_aload_n C dX3_begin_64 rfl rfl ?_
  refine j_iload_n C dX3_begin_65 rfl rfl ?_
  refine pCRX3_64 C dX3_begin_66 (W.lt 25 (by decide)) (sh_25 W) rfl ?_
  refine j_aload_n C dX3_begin_69 rfl rfl ?_
  refine j_iconst (v := 0) C dX3_begin_70 (by decide) ?_
  refine pCRX3_67 C dX3_begin_71 (W.lt 25 (by decide)) (sh_25 W) rfl ?_
  exact hR _ _ dX3_begin_74
def FX3_begin_onc1_44  (x2 : Int32) (h : ph_H) : ph_H := FX3_begin_onc1_52  x2 (FJ7_fill_53178_k29 0 h)
def PX3_begin_onc1_44  (x2 : Int32) (h : ph_H) : Prop := (PJ7_fill_53178_k29 0 h) ∧ (PX3_begin_onc1_52  x2 (FJ7_fill_53178_k29 0 h))
set_option maxRecDepth 100000 in
set_option maxHeartbeats 4000000 in
theorem tX3_begin_onc1_44 {X : fj_X} {Y : fj_Y} {l0 : Launch} {ad : Nat → Nat} {n : Nat} {S : ph_S} (W : WS 1 n S) (C : FC X Y l0 cX3_begin 3 RX3 ({ frames := 1, cells := 0, slots := 0, locals := 26 } : Room) 0 0 none) (x2 : Int32) (h : ph_H) (hP : PX3_begin_onc1_44  x2 h) (hR : RETv X Y ad n S cX3_begin (FX3_begin_onc1_44  x2 h)) : FJ X Y ad n S h 44 [(0, .ref (ad 25)), (2, .int x2)] [] := by
  unfold PX3_begin_onc1_44 at hP
  unfold FX3_begin_onc1_44 at hR
  refine j_aload_n C dX3_begin_44 rfl rfl ?_
  refine gCRX3_21 C dX3_begin_45 (W.lt 25 (by decide)) (sh_25 W) rfl ?_
  refine j_iconst (v := 0) C dX3_begin_48 (by decide) ?_
  obtain ⟨p3, hP⟩ := hP
  refine j_callSv C (MJ7_fill_53178_k29 W 0 h p3) dX3_begin_49 (CKJ7_fill_53178 (by decide)) ⟨rfl, rfl⟩ lk_RX3_43 st_J7_fill_53178 rfl (Nat.le_of_ble_eq_true rfl) ?_
  intro S' h' hq
  obtain ⟨e1, e2⟩ := hq
  rw [e1, e2]
  exact j_vl (tX3_begin_onc1_52 W C  x2 (FJ7_fill_53178_k29 0 h) hP hR) ⟨rfl, rfl, trivial⟩
def FX3_begin_onc1_21  (x2 : Int32) (h : ph_H) : ph_H := FX3_begin_onc1_44  x2 (FJ7_fill_53178_k28 0 (hc h 4 27 0 0 12))
def PX3_begin_onc1_21  (x2 : Int32) (h : ph_H) : Prop := cpok 0 0 12 12 28 ∧ ((PJ7_fill_53178_k28 0 (hc h 4 27 0 0 12)) ∧ (PX3_begin_onc1_44  x2 (FJ7_fill_53178_k28 0 (hc h 4 27 0 0 12))))
set_option maxRecDepth 100000 in
set_option maxHeartbeats 4000000 in
theorem tX3_begin_onc1_21 {X : fj_X} {Y : fj_Y} {l0 : Launch} {ad : Nat → Nat} {n : Nat} {S : ph_S} (W : WS 1 n S) (C : FC X Y l0 cX3_begin 3 RX3 ({ frames := 1, cells := 0, slots := 0, locals := 26 } : Room) 0 0 none) (x2 : Int32) (h : ph_H) (hP : PX3_begin_onc1_21  x2 h) (hR : RETv X Y ad n S cX3_begin (FX3_begin_onc1_21  x2 h)) : FJ X Y ad n S h 21 [(0, .ref (ad 25)), (1, .ref (ad 1)), (2, .int x2)] [] := by
  unfold PX3_begin_onc1_21 at hP
  unfold FX3_begin_onc1_21 at hR
  refine j_aload_n C dX3_begin_21 rfl rfl ?_
  refine gCRX3_49 C dX3_begin_22 (W.lt 1 (by decide)) (sh_1 W) rfl ?_
  refine j_iconst (v := 0) C dX3_begin_25 (by decide) ?_
  refine j_aload_n C dX3_begin_26 rfl rfl ?_
  refine gCRX3_15 C dX3_begin_27 (W.lt 25 (by decide)) (sh_25 W) rfl ?_
  refine j_iconst (v := 0) C dX3_begin_30 (by decide) ?_
  refine j_bipush (v := 12) C dX3_begin_31 (by decide) ?_
  obtain ⟨p7, hP⟩ := hP
  refine j_copy (k0 := 4) (k1 := 27) C dX3_begin_33 lk_RX3_54 ac_n ac_s ac_i (W.lt 4 (by decide)) (sh_4 W) (W.lt 27 (by decide)) (sh_27 W) p7 (by decide) (Nat.le_of_ble_eq_true rfl) ?_
  refine j_aload_n C dX3_begin_36 rfl rfl ?_
  refine gCRX3_18 C dX3_begin_37 (W.lt 25 (by decide)) (sh_25 W) rfl ?_
  refine j_iconst (v := 0) C dX3_begin_40 (by decide) ?_
  obtain ⟨p12, hP⟩ := hP
  refine j_callSv C (MJ7_fill_53178_k28 W 0 (hc h 4 27 0 0 12) p12) dX3_begin_41 (CKJ7_fill_53178 (by decide)) ⟨rfl, rfl⟩ lk_RX3_43 st_J7_fill_53178 rfl (Nat.le_of_ble_eq_true rfl) ?_
  intro S' h' hq
  obtain ⟨e1, e2⟩ := hq
  rw [e1, e2]
  exact j_vl (tX3_begin_onc1_44 W C  x2 (FJ7_fill_53178_k28 0 (hc h 4 27 0 0 12)) hP hR) ⟨rfl, rfl, trivial⟩
def FX3_begin_onc1_13  (x2 : Int32) (h : ph_H) : ph_H := FX3_begin_onc1_21  x2 (FJ7_fill_53178_k27 0 h)
def PX3_begin_onc1_13  (x2 : Int32) (h : ph_H) : Prop := (PJ7_fill_53178_k27 0 h) ∧ (PX3_begin_onc1_21  x2 (FJ7_fill_53178_k27 0 h))
set_option maxRecDepth 100000 in
set_option maxHeartbeats 4000000 in
theorem tX3_begin_onc1_13 {X : fj_X} {Y : fj_Y} {l0 : Launch} {ad : Nat → Nat} {n : Nat} {S : ph_S} (W : WS 1 n S) (C : FC X Y l0 cX3_begin 3 RX3 ({ frames := 1, cells := 0, slots := 0, locals := 26 } : Room) 0 0 none) (x2 : Int32) (h : ph_H) (hP : PX3_begin_onc1_13  x2 h) (hR : RETv X Y ad n S cX3_begin (FX3_begin_onc1_13  x2 h)) : FJ X Y ad n S h 13 [(0, .ref (ad 25)), (1, .ref (ad 1)), (2, .int x2)] [] := by
  unfold PX3_begin_onc1_13 at hP
  unfold FX3_begin_onc1_13 at hR
  refine j_aload_n C dX3_begin_13 rfl rfl ?_
  refine gCRX3_15 C dX3_begin_14 (W.lt 25 (by decide)) (sh_25 W) rfl ?_
  refine j_iconst (v := 0) C dX3_begin_17 (by decide) ?_
  obtain ⟨p3, hP⟩ := hP
  refine j_callSv C (MJ7_fill_53178_k27 W 0 h p3) dX3_begin_18 (CKJ7_fill_53178 (by decide)) ⟨rfl, rfl⟩ lk_RX3_43 st_J7_fill_53178 rfl (Nat.le_of_ble_eq_true rfl) ?_
  intro S' h' hq
  obtain ⟨e1, e2⟩ := hq
  rw [e1, e2]
  exact j_vl (tX3_begin_onc1_21 W C  x2 (FJ7_fill_53178_k27 0 h) hP hR) ⟨rfl, rfl, rfl, trivial⟩
def FX3_begin_onc1 (a1 : Int32) (h : ph_H) : ph_H := FX3_begin_onc1_13  a1 (FJ7_fill_53178_k26 0 h)
def PX3_begin_onc1 (a1 : Int32) (h : ph_H) : Prop := (PJ7_fill_53178_k26 0 h) ∧ (PX3_begin_onc1_13  a1 (FJ7_fill_53178_k26 0 h))
set_option maxRecDepth 100000 in
set_option maxHeartbeats 4000000 in
theorem tX3_begin_onc1 {X : fj_X} {Y : fj_Y} {l0 : Launch} {ad : Nat → Nat} {n : Nat} {S : ph_S} (W : WS 1 n S) (C : FC X Y l0 cX3_begin 3 RX3 ({ frames := 1, cells := 0, slots := 0, locals := 26 } : Room) 0 0 none) (a1 : Int32) (h : ph_H) (hP : PX3_begin_onc1 a1 h) (hR : RETv X Y ad n S cX3_begin (FX3_begin_onc1 a1 h)) : FJ X Y ad n S h 0 [(0, .ref (ad 25)), (1, .ref (ad 1)), (2, .int a1)] [] := by
  unfold PX3_begin_onc1 at hP
  unfold FX3_begin_onc1 at hR
  refine j_aload_n C dX3_begin_0 rfl rfl ?_
  refine j_aload_n C dX3_begin_1 rfl rfl ?_
  refine pP_i W C dX3_begin_2 ?_
  refine j_aload_n C dX3_begin_5 rfl rfl ?_
  refine gCRX3_9 C dX3_begin_6 (W.lt 25 (by decide)) (sh_25 W) rfl ?_
  refine j_iconst (v := 0) C dX3_begin_9 (by decide) ?_
  obtain ⟨p6, hP⟩ := hP
  refine j_callSv C (MJ7_fill_53178_k26 W 0 h p6) dX3_begin_10 (CKJ7_fill_53178 (by decide)) ⟨rfl, rfl⟩ lk_RX3_43 st_J7_fill_53178 rfl (Nat.le_of_ble_eq_true rfl) ?_
  intro S' h' hq
  obtain ⟨e1, e2⟩ := hq
  rw [e1, e2]
  exact j_vl (tX3_begin_onc1_13 W C  a1 (FJ7_fill_53178_k26 0 h) hP hR) ⟨rfl, rfl, rfl, trivial⟩
theorem MX3_begin_onc1 {l0 : Launch} {Y : fj_Y} {ad : Nat → Nat} {n : Nat} {S : ph_S} (W : WS 1 n S) (a1 : Int32) (h : ph_H) (hP : PX3_begin_onc1 a1 h) : MV l0 yX3_begin cX3_begin 3 ({ frames := 1, cells := 0, slots := 0, locals := 26 } : Room) Y ad n S h [.ref (ad 25), .ref (ad 1), .int a1] (fun S' h' => S' = S ∧ h' = FX3_begin_onc1 a1 h) := met_v (by decide) (Nat.le_of_ble_eq_true rfl) (fun X C K => j_vl (tX3_begin_onc1 W C a1 h hP (fun pc lv hd => K _ _ ⟨rfl, rfl⟩ pc lv hd)) ⟨rfl, rfl, rfl, trivial⟩)

-- X6_goThroughc1
def FX6_goThroughc1_97 (L37 : Int32 → Int32 → ph_H → ph_H) (x1 : Int32) (x2 : Int32) (s0 : Int32) (h : ph_H) : ph_H := L37 x1 (FX3_whoGoes_oc1 x2 (hs h 52 8 s0)) (hs (hs h 52 8 s0) 52 7 ((h 52 7) + 1))
def PX6_goThroughc1_97 (LP37 : Int32 → Int32 → ph_H → Prop) (x1 : Int32) (x2 : Int32) (s0 : Int32) (h : ph_H) : Prop := (PX3_whoGoes_oc1 x2 (hs h 52 8 s0)) ∧ (LP37 x1 (FX3_whoGoes_oc1 x2 (hs h 52 8 s0)) (hs (hs h 52 8 s0) 52 7 ((h 52 7) + 1)))
set_option maxRecDepth 100000 in
set_option maxHeartbeats 4000000 in
theorem tX6_goThroughc1_97 {X : fj_X} {Y : fj_Y} {l0 : Launch} {ad : Nat → Nat} {n : Nat} {S : ph_S} (W : WS 1 n S) (C : FC X Y l0 cX6_goThrough 3 RX6 ({ frames := 4, cells := 0, slots := 0, locals := 98 } : Room) 0 0 none) (L37 : Int32 → Int32 → ph_H → ph_H) (LP37 : Int32 → Int32 → ph_H → Prop) (hL37 : ∀ (x1 : Int32) (x2 : Int32) (h : ph_H), LP37 x1 x2 h → RETv X Y ad n S cX6_goThrough (L37 x1 x2 h) → FJ X Y ad n S h 37 [(0, .ref (ad 52)), (1, .int x1), (2, .int x2)] []) (x1 : Int32) (x2 : Int32) (s0 : Int32) (h : ph_H) (hP : PX6_goThroughc1_97 LP37 x1 x2 s0 h) (hR : RETv X Y ad n S cX6_goThrough (FX6_goThroughc1_97 L37 x1 x2 s0 h)) : FJ X Y ad n S h 97 [(0, .ref (ad 52)), (1, .int x1), (2, .int x2)] [.int s0, .ref (ad 52)] := by
  unfold PX6_goThroughc1_97 at hP
  unfold FX6_goThroughc1_97 at hR
  refine pCRX6_45 C dX6_goThrough_97 (W.lt 52 (by decide)) (sh_52 W) rfl ?_
  refine j_aload_n C dX6_goThrough_100 rfl rfl ?_
  refine gCRX6_30 C dX6_goThrough_101 (W.lt 52 (by decide)) (sh_52 W) rfl ?_
  refine j_iload_n C dX6_goThrough_104 rfl rfl ?_
  obtain ⟨p4, hP⟩ := hP
  refine j_callV C (MX3_whoGoes_oc1 W x2 (hs h 52 8 s0) p4) dX6_goThrough_105 (CKX3_whoGoes (by decide)) ⟨rfl, rfl⟩ lk_RX6_75 in_X3_whoGoes se_X3_whoGoes (W.lt 25 (by decide)) (sh_25 W) rfl rfl (Nat.le_of_ble_eq_true rfl) ?_
  intro r S' h' hq
  obtain ⟨e1, hh, e3⟩ := hq
  rw [e1, hh, e3]
  refine j_istore_n C dX6_goThrough_108 rfl (by decide) rfl ?_
  refine j_aload_n C dX6_goThrough_109 rfl rfl ?_
  refine j_dup C dX6_goThrough_110 rfl ?_
  refine gCRX6_79 (v := (h 52 7)) C dX6_goThrough_111 (W.lt 52 (by decide)) (sh_52 W) rfl (hz_i (by decide)) ?_
  refine j_iconst (v := 1) C dX6_goThrough_114 (by decide) ?_
  refine j_iadd C dX6_goThrough_115 ?_
  refine pCRX6_79 C dX6_goThrough_116 (W.lt 52 (by decide)) (sh_52 W) rfl ?_
  refine j_goto (tgt := 37) C dX6_goThrough_119 (by decide) ?_
  exact j_vl (hL37 x1 (FX3_whoGoes_oc1 x2 (hs h 52 8 s0)) (hs (hs h 52 8 s0) 52 7 ((h 52 7) + 1)) hP hR) ⟨rfl, rfl, rfl, trivial⟩
def FX6_goThroughc1_82 (L37 : Int32 → Int32 → ph_H → ph_H) (x1 : Int32) (x2 : Int32) (h : ph_H) : ph_H := FX6_goThroughc1_97 L37 x1 (FX6_chosen x2 h) ((FX3_go_oc1 (FX6_chosen x2 h) h).1) ((FX3_go_oc1 (FX6_chosen x2 h) h).2)
def PX6_goThroughc1_82 (LP37 : Int32 → Int32 → ph_H → Prop) (x1 : Int32) (x2 : Int32) (h : ph_H) : Prop := (PX6_chosen x2 h) ∧ ((PX3_go_oc1 (FX6_chosen x2 h) h) ∧ (PX6_goThroughc1_97 LP37 x1 (FX6_chosen x2 h) ((FX3_go_oc1 (FX6_chosen x2 h) h).1) ((FX3_go_oc1 (FX6_chosen x2 h) h).2)))
set_option maxRecDepth 100000 in
set_option maxHeartbeats 4000000 in
theorem tX6_goThroughc1_82 {X : fj_X} {Y : fj_Y} {l0 : Launch} {ad : Nat → Nat} {n : Nat} {S : ph_S} (W : WS 1 n S) (C : FC X Y l0 cX6_goThrough 3 RX6 ({ frames := 4, cells := 0, slots := 0, locals := 98 } : Room) 0 0 none) (L37 : Int32 → Int32 → ph_H → ph_H) (LP37 : Int32 → Int32 → ph_H → Prop) (hL37 : ∀ (x1 : Int32) (x2 : Int32) (h : ph_H), LP37 x1 x2 h → RETv X Y ad n S cX6_goThrough (L37 x1 x2 h) → FJ X Y ad n S h 37 [(0, .ref (ad 52)), (1, .int x1), (2, .int x2)] []) (x1 : Int32) (x2 : Int32) (h : ph_H) (hP : PX6_goThroughc1_82 LP37 x1 x2 h) (hR : RETv X Y ad n S cX6_goThrough (FX6_goThroughc1_82 L37 x1 x2 h)) : FJ X Y ad n S h 82 [(0, .ref (ad 52)), (1, .int x1), (2, .int x2)] [] := by
  unfold PX6_goThroughc1_82 at hP
  unfold FX6_goThroughc1_82 at hR
  refine j_aload_n C dX6_goThrough_82 rfl rfl ?_
  refine j_iload_n C dX6_goThrough_83 rfl rfl ?_
  obtain ⟨p2, hP⟩ := hP
  refine j_callV C (MX6_chosen W x2 h p2) dX6_goThrough_84 (CKX6_chosen (by decide)) ⟨rfl, rfl⟩ lk_RX6_85 in_X6_chosen se_X6_chosen (W.lt 52 (by decide)) (sh_52 W) rfl rfl (Nat.le_of_ble_eq_true rfl) ?_
  intro r S' h' hq
  obtain ⟨e1, hh, e3⟩ := hq
  rw [e1, hh, e3]
  refine j_istore_n C dX6_goThrough_87 rfl (by decide) rfl ?_
  refine j_aload_n C dX6_goThrough_88 rfl rfl ?_
  refine j_aload_n C dX6_goThrough_89 rfl rfl ?_
  refine gCRX6_30 C dX6_goThrough_90 (W.lt 52 (by decide)) (sh_52 W) rfl ?_
  refine j_iload_n C dX6_goThrough_93 rfl rfl ?_
  obtain ⟨p12, hP⟩ := hP
  refine j_callV C (MX3_go_oc1 W (FX6_chosen x2 h) h p12) dX6_goThrough_94 (CKX3_go (by decide)) ⟨rfl, rfl⟩ lk_RX6_88 in_X3_go se_X3_go (W.lt 25 (by decide)) (sh_25 W) rfl rfl (Nat.le_of_ble_eq_true rfl) ?_
  intro r S' h' hq
  obtain ⟨e1, e2, e3⟩ := hq
  rw [e1, e2, e3]
  exact j_vl (tX6_goThroughc1_97 W C L37 LP37 hL37 x1 (FX6_chosen x2 h) ((FX3_go_oc1 (FX6_chosen x2 h) h).1) ((FX3_go_oc1 (FX6_chosen x2 h) h).2) hP hR) ⟨rfl, rfl, rfl, trivial⟩
def FX6_goThroughc1_122  (x1 : Int32) (h : ph_H) : ph_H := if x1 = (-1) then (h) else ((hs h 53 x1.toNatClampNeg (h 52 7)))
def PX6_goThroughc1_122  (x1 : Int32) (h : ph_H) : Prop := (x1 = (-1) → (True)) ∧ (¬ x1 = (-1) → (vp_in x1 2 ∧ (True)))
set_option maxRecDepth 100000 in
set_option maxHeartbeats 4000000 in
theorem tX6_goThroughc1_122 {X : fj_X} {Y : fj_Y} {l0 : Launch} {ad : Nat → Nat} {n : Nat} {S : ph_S} (W : WS 1 n S) (C : FC X Y l0 cX6_goThrough 3 RX6 ({ frames := 4, cells := 0, slots := 0, locals := 98 } : Room) 0 0 none) (x1 : Int32) (h : ph_H) (hP : PX6_goThroughc1_122  x1 h) (hR : RETv X Y ad n S cX6_goThrough (FX6_goThroughc1_122  x1 h)) : FJ X Y ad n S h 122 [(0, .ref (ad 52)), (1, .int x1)] [] := by
  unfold PX6_goThroughc1_122 at hP
  unfold FX6_goThroughc1_122 at hR
  refine j_iload_n C dX6_goThrough_122 rfl rfl ?_
  refine j_iconst (v := (-1)) C dX6_goThrough_123 (by decide) ?_
  refine j_icmp_eq (tgt := 137) C dX6_goThrough_124 (by decide) (fun c0 => ?_) (fun c0 => ?_)
  · have hP := hP.1 c0
    rw [if_pos c0] at hR
    exact hR _ _ dX6_goThrough_137
  · have hP := hP.2 c0
    rw [if_neg c0] at hR
    refine j_aload_n C dX6_goThrough_127 rfl rfl ?_
    refine gCRX6_16 C dX6_goThrough_128 (W.lt 52 (by decide)) (sh_52 W) rfl ?_
    refine j_iload_n C dX6_goThrough_131 rfl rfl ?_
    refine j_aload_n C dX6_goThrough_132 rfl rfl ?_
    refine gCRX6_79 (v := (h 52 7)) C dX6_goThrough_133 (W.lt 52 (by decide)) (sh_52 W) rfl rfl ?_
    obtain ⟨p5, hP⟩ := hP
    refine j_iast (k := 53) C dX6_goThrough_136 (W.lt 53 (by decide)) (sh_53 W) p5 ?_
    exact hR _ _ dX6_goThrough_137
def FX6_goThroughc1_37  : Nat → Int32 → Int32 → ph_H → ph_H
  | 0, _, _, h => h
  | q + 1, x1, x2, h => if 300 ≤ (h 52 7) then (FX6_goThroughc1_122  x1 h) else (if x2 < 0 then (FX6_goThroughc1_122  x1 h) else (if (h 52 8) = 0 then (if x1 = (-1) then (FX6_goThroughc1_82 (FX6_goThroughc1_37  q) x1 x2 h) else (FX6_goThroughc1_82 (FX6_goThroughc1_37  q) x1 x2 (hs h (57 + x1.toNatClampNeg) (h 52 7).toNatClampNeg (FX3_rivalsOf_oc1 x2 h)))) else (FX6_goThroughc1_122  x1 h)))
def PX6_goThroughc1_37  : Nat → Int32 → Int32 → ph_H → Prop
  | 0, _, _, _ => False
  | q + 1, x1, x2, h => (300 ≤ (h 52 7) → (PX6_goThroughc1_122  x1 h)) ∧ (¬ 300 ≤ (h 52 7) → ((x2 < 0 → (PX6_goThroughc1_122  x1 h)) ∧ (¬ x2 < 0 → (((h 52 8) = 0 → ((x1 = (-1) → (PX6_goThroughc1_82 (PX6_goThroughc1_37  q) x1 x2 h)) ∧ (¬ x1 = (-1) → (vp_in x1 2 ∧ ((PX3_rivalsOf_oc1 x2 h) ∧ (vp_in (h 52 7) 300 ∧ (PX6_goThroughc1_82 (PX6_goThroughc1_37  q) x1 x2 (hs h (57 + x1.toNatClampNeg) (h 52 7).toNatClampNeg (FX3_rivalsOf_oc1 x2 h))))))))) ∧ (¬ (h 52 8) = 0 → (PX6_goThroughc1_122  x1 h))))))
set_option maxRecDepth 100000 in
set_option maxHeartbeats 4000000 in
theorem tX6_goThroughc1_37 {X : fj_X} {Y : fj_Y} {l0 : Launch} {ad : Nat → Nat} {n : Nat} {S : ph_S} (W : WS 1 n S) (C : FC X Y l0 cX6_goThrough 3 RX6 ({ frames := 4, cells := 0, slots := 0, locals := 98 } : Room) 0 0 none) : ∀ (q : Nat) (x1 : Int32) (x2 : Int32) (h : ph_H), PX6_goThroughc1_37  q x1 x2 h → RETv X Y ad n S cX6_goThrough (FX6_goThroughc1_37  q x1 x2 h) → FJ X Y ad n S h 37 [(0, .ref (ad 52)), (1, .int x1), (2, .int x2)] [] := by
  intro q
  induction q with
  | zero =>
    intro x1 x2 h hP hR
    exact absurd hP id
  | succ q ih =>
    intro x1 x2 h hP hR
    unfold PX6_goThroughc1_37 at hP
    unfold FX6_goThroughc1_37 at hR
    refine j_aload_n C dX6_goThrough_37 rfl rfl ?_
    refine gCRX6_79 (v := (h 52 7)) C dX6_goThrough_38 (W.lt 52 (by decide)) (sh_52 W) rfl rfl ?_
    refine j_sipush (v := 300) C dX6_goThrough_41 (by decide) ?_
    refine j_icmp_ge (tgt := 122) C dX6_goThrough_44 (by decide) (fun c0 => ?_) (fun c0 => ?_)
    · have hP := hP.1 c0
      rw [if_pos c0] at hR
      exact j_vl (tX6_goThroughc1_122 W C  x1 h hP hR) ⟨rfl, rfl, trivial⟩
    · have hP := hP.2 c0
      rw [if_neg c0] at hR
      refine j_iload_n C dX6_goThrough_47 rfl rfl ?_
      refine j_if_lt (tgt := 122) C dX6_goThrough_48 (by decide) (fun c1 => ?_) (fun c1 => ?_)
      · have hP := hP.1 c1
        rw [if_pos c1] at hR
        exact j_vl (tX6_goThroughc1_122 W C  x1 h hP hR) ⟨rfl, rfl, trivial⟩
      · have hP := hP.2 c1
        rw [if_neg c1] at hR
        refine j_aload_n C dX6_goThrough_51 rfl rfl ?_
        refine gCRX6_45 (v := (h 52 8)) C dX6_goThrough_52 (W.lt 52 (by decide)) (sh_52 W) rfl rfl ?_
        refine j_if_ne (tgt := 122) C dX6_goThrough_55 (by decide) (fun c2 => ?_) (fun c2 => ?_)
        · have hP := hP.2 c2
          rw [if_neg c2] at hR
          exact j_vl (tX6_goThroughc1_122 W C  x1 h hP hR) ⟨rfl, rfl, trivial⟩
        · have hP := hP.1 c2
          rw [if_pos c2] at hR
          refine j_iload_n C dX6_goThrough_58 rfl rfl ?_
          refine j_iconst (v := (-1)) C dX6_goThrough_59 (by decide) ?_
          refine j_icmp_eq (tgt := 82) C dX6_goThrough_60 (by decide) (fun c3 => ?_) (fun c3 => ?_)
          · have hP := hP.1 c3
            rw [if_pos c3] at hR
            exact j_vl (tX6_goThroughc1_82 W C (FX6_goThroughc1_37  q) (PX6_goThroughc1_37  q) (ih) x1 x2 h hP hR) ⟨rfl, rfl, rfl, trivial⟩
          · have hP := hP.2 c3
            rw [if_neg c3] at hR
            refine j_aload_n C dX6_goThrough_63 rfl rfl ?_
            refine gCRX6_11 C dX6_goThrough_64 (W.lt 52 (by decide)) (sh_52 W) rfl ?_
            refine j_iload_n C dX6_goThrough_67 rfl rfl ?_
            obtain ⟨p3, hP⟩ := hP
            refine j_aald (r := (57 + x1.toNatClampNeg)) C dX6_goThrough_68 (W.lt 56 (by decide)) (sh_56 W) p3 (opg p3) ?_
            refine j_aload_n C dX6_goThrough_69 rfl rfl ?_
            refine gCRX6_79 (v := (h 52 7)) C dX6_goThrough_70 (W.lt 52 (by decide)) (sh_52 W) rfl rfl ?_
            refine j_aload_n C dX6_goThrough_73 rfl rfl ?_
            refine gCRX6_30 C dX6_goThrough_74 (W.lt 52 (by decide)) (sh_52 W) rfl ?_
            refine j_iload_n C dX6_goThrough_77 rfl rfl ?_
            obtain ⟨p10, hP⟩ := hP
            refine j_callV C (MX3_rivalsOf_oc1 W x2 h p10) dX6_goThrough_78 (CKX3_rivalsOf (by decide)) ⟨rfl, rfl⟩ lk_RX6_82 in_X3_rivalsOf se_X3_rivalsOf (W.lt 25 (by decide)) (sh_25 W) rfl rfl (Nat.le_of_ble_eq_true rfl) ?_
            intro r S' h' hq
            obtain ⟨e1, hh, e3⟩ := hq
            rw [e1, hh, e3]
            obtain ⟨p15, hP⟩ := hP
            refine j_iast (k := (57 + x1.toNatClampNeg)) C dX6_goThrough_81 (op_lt W p3) (op_sh W p3) p15 ?_
            exact j_vl (tX6_goThroughc1_82 W C (FX6_goThroughc1_37  q) (PX6_goThroughc1_37  q) (ih) x1 x2 (hs h (57 + x1.toNatClampNeg) (h 52 7).toNatClampNeg (FX3_rivalsOf_oc1 x2 h)) hP hR) ⟨rfl, rfl, rfl, trivial⟩
def FX6_goThroughc1_18  (x1 : Int32) (h : ph_H) : ph_H := FX6_goThroughc1_37 2000 x1 (FX3_whoGoes_oc1 0 h) (hs (hs h 52 8 0) 52 7 0)
def PX6_goThroughc1_18  (x1 : Int32) (h : ph_H) : Prop := (PX3_whoGoes_oc1 0 h) ∧ (PX6_goThroughc1_37 2000 x1 (FX3_whoGoes_oc1 0 h) (hs (hs h 52 8 0) 52 7 0))
set_option maxRecDepth 100000 in
set_option maxHeartbeats 4000000 in
theorem tX6_goThroughc1_18 {X : fj_X} {Y : fj_Y} {l0 : Launch} {ad : Nat → Nat} {n : Nat} {S : ph_S} (W : WS 1 n S) (C : FC X Y l0 cX6_goThrough 3 RX6 ({ frames := 4, cells := 0, slots := 0, locals := 98 } : Room) 0 0 none) (x1 : Int32) (h : ph_H) (hP : PX6_goThroughc1_18  x1 h) (hR : RETv X Y ad n S cX6_goThrough (FX6_goThroughc1_18  x1 h)) : FJ X Y ad n S h 18 [(0, .ref (ad 52)), (1, .int x1)] [] := by
  unfold PX6_goThroughc1_18 at hP
  unfold FX6_goThroughc1_18 at hR
  refine j_aload_n C dX6_goThrough_18 rfl rfl ?_
  refine gCRX6_30 C dX6_goThrough_19 (W.lt 52 (by decide)) (sh_52 W) rfl ?_
  refine j_iconst (v := 0) C dX6_goThrough_22 (by decide) ?_
  obtain ⟨p3, hP⟩ := hP
  refine j_callV C (MX3_whoGoes_oc1 W 0 h p3) dX6_goThrough_23 (CKX3_whoGoes (by decide)) ⟨rfl, rfl⟩ lk_RX6_75 in_X3_whoGoes se_X3_whoGoes (W.lt 25 (by decide)) (sh_25 W) rfl rfl (Nat.le_of_ble_eq_true rfl) ?_
  intro r S' h' hq
  obtain ⟨e1, hh, e3⟩ := hq
  rw [e1, hh, e3]
  refine j_istore_n C dX6_goThrough_26 rfl (by decide) rfl ?_
  refine j_aload_n C dX6_goThrough_27 rfl rfl ?_
  refine j_iconst (v := 0) C dX6_goThrough_28 (by decide) ?_
  refine pCRX6_45 C dX6_goThrough_29 (W.lt 52 (by decide)) (sh_52 W) rfl ?_
  refine j_aload_n C dX6_goThrough_32 rfl rfl ?_
  refine j_iconst (v := 0) C dX6_goThrough_33 (by decide) ?_
  refine pCRX6_79 C dX6_goThrough_34 (W.lt 52 (by decide)) (sh_52 W) rfl ?_
  exact j_vl (tX6_goThroughc1_37 W C 2000 x1 (FX3_whoGoes_oc1 0 h) (hs (hs h 52 8 0) 52 7 0) hP hR) ⟨rfl, rfl, rfl, trivial⟩
def FX6_goThroughc1 (a0 : Int32) (h : ph_H) : ph_H := FX6_goThroughc1_18  a0 (FX3_begin_onc1 (h 1 6) h)
def PX6_goThroughc1 (a0 : Int32) (h : ph_H) : Prop := (PX3_begin_onc1 (h 1 6) h) ∧ (PX6_goThroughc1_18  a0 (FX3_begin_onc1 (h 1 6) h))
set_option maxRecDepth 100000 in
set_option maxHeartbeats 4000000 in
theorem tX6_goThroughc1 {X : fj_X} {Y : fj_Y} {l0 : Launch} {ad : Nat → Nat} {n : Nat} {S : ph_S} (W : WS 1 n S) (C : FC X Y l0 cX6_goThrough 3 RX6 ({ frames := 4, cells := 0, slots := 0, locals := 98 } : Room) 0 0 none) (a0 : Int32) (h : ph_H) (hP : PX6_goThroughc1 a0 h) (hR : RETv X Y ad n S cX6_goThrough (FX6_goThroughc1 a0 h)) : FJ X Y ad n S h 0 [(0, .ref (ad 52)), (1, .int a0)] [] := by
  unfold PX6_goThroughc1 at hP
  unfold FX6_goThroughc1 at hR
  refine j_aload_n C dX6_goThrough_0 rfl rfl ?_
  refine gCRX6_30 C dX6_goThrough_1 (W.lt 52 (by decide)) (sh_52 W) rfl ?_
  refine j_aload_n C dX6_goThrough_4 rfl rfl ?_
  refine gCRX6_26 C dX6_goThrough_5 (W.lt 52 (by decide)) (sh_52 W) rfl ?_
  refine j_aload_n C dX6_goThrough_8 rfl rfl ?_
  refine gCRX6_26 C dX6_goThrough_9 (W.lt 52 (by decide)) (sh_52 W) rfl ?_
  refine gCRX6_64 (v := (h 1 6)) C dX6_goThrough_12 (W.lt 1 (by decide)) (sh_1 W) rfl rfl ?_
  obtain ⟨p7, hP⟩ := hP
  refine j_callVv C (MX3_begin_onc1 W (h 1 6) h p7) dX6_goThrough_15 (CKX3_begin (by decide)) ⟨rfl, rfl⟩ lk_RX6_69 in_X3_begin se_X3_begin (W.lt 25 (by decide)) (sh_25 W) rfl rfl (Nat.le_of_ble_eq_true rfl) ?_
  intro S' h' hq
  obtain ⟨e1, e2⟩ := hq
  rw [e1, e2]
  exact j_vl (tX6_goThroughc1_18 W C  a0 (FX3_begin_onc1 (h 1 6) h) hP hR) ⟨rfl, rfl, trivial⟩
theorem MX6_goThroughc1 {l0 : Launch} {Y : fj_Y} {ad : Nat → Nat} {n : Nat} {S : ph_S} (W : WS 1 n S) (a0 : Int32) (h : ph_H) (hP : PX6_goThroughc1 a0 h) : MV l0 yX6_goThrough cX6_goThrough 3 ({ frames := 4, cells := 0, slots := 0, locals := 98 } : Room) Y ad n S h [.ref (ad 52), .int a0] (fun S' h' => S' = S ∧ h' = FX6_goThroughc1 a0 h) := met_v (by decide) (Nat.le_of_ble_eq_true rfl) (fun X C K => j_vl (tX6_goThroughc1 W C a0 h hP (fun pc lv hd => K _ _ ⟨rfl, rfl⟩ pc lv hd)) ⟨rfl, rfl, trivial⟩)

-- X6_putAhead
def FX6_putAhead (a0 : Int32) (a1 : Int32) (h : ph_H) : ph_H := (hs (hs h 54 a0.toNatClampNeg a1) 55 a0.toNatClampNeg (-1))
def PX6_putAhead (a0 : Int32) (a1 : Int32) (h : ph_H) : Prop := vp_in a0 2 ∧ (vp_in a0 2 ∧ (True))
set_option maxRecDepth 100000 in
set_option maxHeartbeats 4000000 in
theorem tX6_putAhead {X : fj_X} {Y : fj_Y} {l0 : Launch} {ad : Nat → Nat} {n : Nat} {S : ph_S} {pr : Nat} (W : WS pr n S) (C : FC X Y l0 cX6_putAhead 3 RX6 ({ frames := 0, cells := 0, slots := 0, locals := 0 } : Room) 0 0 none) (a0 : Int32) (a1 : Int32) (h : ph_H) (hP : PX6_putAhead a0 a1 h) (hR : RETv X Y ad n S cX6_putAhead (FX6_putAhead a0 a1 h)) : FJ X Y ad n S h 0 [(0, .ref (ad 52)), (1, .int a0), (2, .int a1)] [] := by
  unfold PX6_putAhead at hP
  unfold FX6_putAhead at hR
  refine j_aload_n C dX6_putAhead_0 rfl rfl ?_
  refine gCRX6_20 C dX6_putAhead_1 (W.lt 52 (by decide)) (sh_52 W) rfl ?_
  refine j_iload_n C dX6_putAhead_4 rfl rfl ?_
  refine j_iload_n C dX6_putAhead_5 rfl rfl ?_
  obtain ⟨p4, hP⟩ := hP
  refine j_iast (k := 54) C dX6_putAhead_6 (W.lt 54 (by decide)) (sh_54 W) p4 ?_
  refine j_aload_n C dX6_putAhead_7 rfl rfl ?_
  refine gCRX6_23 C dX6_putAhead_8 (W.lt 52 (by decide)) (sh_52 W) rfl ?_
  refine j_iload_n C dX6_putAhead_11 rfl rfl ?_
  refine j_iconst (v := (-1)) C dX6_putAhead_12 (by decide) ?_
  obtain ⟨p10, hP⟩ := hP
  refine j_iast (k := 55) C dX6_putAhead_13 (W.lt 55 (by decide)) (sh_55 W) p10 ?_
  exact hR _ _ dX6_putAhead_14
theorem MX6_putAhead {l0 : Launch} {Y : fj_Y} {ad : Nat → Nat} {n : Nat} {S : ph_S} {pr : Nat} (W : WS pr n S) (a0 : Int32) (a1 : Int32) (h : ph_H) (hP : PX6_putAhead a0 a1 h) : MV l0 yX6_putAhead cX6_putAhead 3 ({ frames := 0, cells := 0, slots := 0, locals := 0 } : Room) Y ad n S h [.ref (ad 52), .int a0, .int a1] (fun S' h' => S' = S ∧ h' = FX6_putAhead a0 a1 h) := met_v (by decide) (Nat.le_of_ble_eq_true rfl) (fun X C K => j_vl (tX6_putAhead W C a0 a1 h hP (fun pc lv hd => K _ _ ⟨rfl, rfl⟩ pc lv hd)) ⟨rfl, rfl, rfl, trivial⟩)

-- X6_moveOn
def FX6_moveOn_29 (L16 : Int32 → Int32 → Int32 → ph_H → Int32 × ph_H) : Nat → Int32 → Int32 → Int32 → ph_H → Int32 × ph_H
  | 0, _, _, _, h => (0, h)
  | q + 1, x1, x3, x4, h => if 4 ≤ x4 then (L16 x1 0 (x3 + 1) h) else (if (((h (57 + x1.toNatClampNeg) (x3.toNatClampNeg)) >>> (x4 &&& 31)) &&& 1) = 0 then (FX6_moveOn_29 L16 q x1 x3 (x4 + 1) h) else ((1, (hs (hs h 54 x1.toNatClampNeg x3) 55 x1.toNatClampNeg x4))))
def PX6_moveOn_29 (LP16 : Int32 → Int32 → Int32 → ph_H → Prop) : Nat → Int32 → Int32 → Int32 → ph_H → Prop
  | 0, _, _, _, _ => False
  | q + 1, x1, x3, x4, h => (4 ≤ x4 → (LP16 x1 0 (x3 + 1) h)) ∧ (¬ 4 ≤ x4 → (vp_in x1 2 ∧ (vp_in x3 300 ∧ (((((h (57 + x1.toNatClampNeg) (x3.toNatClampNeg)) >>> (x4 &&& 31)) &&& 1) = 0 → (PX6_moveOn_29 LP16 q x1 x3 (x4 + 1) h)) ∧ (¬ (((h (57 + x1.toNatClampNeg) (x3.toNatClampNeg)) >>> (x4 &&& 31)) &&& 1) = 0 → (vp_in x1 2 ∧ (vp_in x1 2 ∧ (True))))))))
set_option maxRecDepth 100000 in
set_option maxHeartbeats 4000000 in
theorem tX6_moveOn_29 {X : fj_X} {Y : fj_Y} {l0 : Launch} {ad : Nat → Nat} {n : Nat} {S : ph_S} {pr : Nat} (W : WS pr n S) (C : FC X Y l0 cX6_moveOn 5 RX6 ({ frames := 0, cells := 0, slots := 0, locals := 0 } : Room) 0 0 (some .boolean)) (L16 : Int32 → Int32 → Int32 → ph_H → Int32 × ph_H) (LP16 : Int32 → Int32 → Int32 → ph_H → Prop) (hL16 : ∀ (x1 : Int32) (x2 : Int32) (x3 : Int32) (h : ph_H), LP16 x1 x2 x3 h → RETz X Y ad n S cX6_moveOn (L16 x1 x2 x3 h) → FJ X Y ad n S h 16 [(0, .ref (ad 52)), (1, .int x1), (2, .int x2), (3, .int x3)] []) : ∀ (q : Nat) (x1 : Int32) (x3 : Int32) (x4 : Int32) (h : ph_H), PX6_moveOn_29 LP16 q x1 x3 x4 h → RETz X Y ad n S cX6_moveOn (FX6_moveOn_29 L16 q x1 x3 x4 h) → FJ X Y ad n S h 29 [(0, .ref (ad 52)), (1, .int x1), (3, .int x3), (4, .int x4)] [] := by
  intro q
  induction q with
  | zero =>
    intro x1 x3 x4 h hP hR
    exact absurd hP id
  | succ q ih =>
    intro x1 x3 x4 h hP hR
    unfold PX6_moveOn_29 at hP
    unfold FX6_moveOn_29 at hR
    refine j_iload C dX6_moveOn_29 rfl ?_
    refine j_iconst (v := 4) C dX6_moveOn_31 (by decide) ?_
    refine j_icmp_ge (tgt := 74) C dX6_moveOn_32 (by decide) (fun c0 => ?_) (fun c0 => ?_)
    · have hP := hP.1 c0
      rw [if_pos c0] at hR
      refine j_iconst (v := 0) C dX6_moveOn_74 (by decide) ?_
      refine j_istore_n C dX6_moveOn_75 rfl (by decide) rfl ?_
      refine j_iinc (v := (x3 + 1)) C dX6_moveOn_76 rfl rfl (by decide) rfl ?_
      refine j_goto (tgt := 16) C dX6_moveOn_79 (by decide) ?_
      exact j_vl (hL16 x1 0 (x3 + 1) h hP hR) ⟨rfl, rfl, rfl, rfl, trivial⟩
    · have hP := hP.2 c0
      rw [if_neg c0] at hR
      refine j_aload_n C dX6_moveOn_35 rfl rfl ?_
      refine gCRX6_11 C dX6_moveOn_36 (W.lt 52 (by decide)) (sh_52 W) rfl ?_
      refine j_iload_n C dX6_moveOn_39 rfl rfl ?_
      obtain ⟨p3, hP⟩ := hP
      refine j_aald (r := (57 + x1.toNatClampNeg)) C dX6_moveOn_40 (W.lt 56 (by decide)) (sh_56 W) p3 (opg p3) ?_
      refine j_iload_n C dX6_moveOn_41 rfl rfl ?_
      obtain ⟨p6, hP⟩ := hP
      refine j_iald (k := (57 + x1.toNatClampNeg)) (v := (h (57 + x1.toNatClampNeg) (x3.toNatClampNeg))) C dX6_moveOn_42 (op_lt W p3) (op_sh W p3) p6 rfl ?_
      refine j_iload C dX6_moveOn_43 rfl ?_
      refine j_ishr C dX6_moveOn_45 ?_
      refine j_iconst (v := 1) C dX6_moveOn_46 (by decide) ?_
      refine j_iand C dX6_moveOn_47 ?_
      refine j_if_eq (tgt := 68) C dX6_moveOn_48 (by decide) (fun c1 => ?_) (fun c1 => ?_)
      · have hP := hP.1 c1
        rw [if_pos c1] at hR
        refine j_iinc (v := (x4 + 1)) C dX6_moveOn_68 rfl rfl (by decide) rfl ?_
        refine j_goto (tgt := 29) C dX6_moveOn_71 (by decide) ?_
        exact j_vl (ih x1 x3 (x4 + 1) h hP hR) ⟨rfl, rfl, rfl, rfl, trivial⟩
      · have hP := hP.2 c1
        rw [if_neg c1] at hR
        refine j_aload_n C dX6_moveOn_51 rfl rfl ?_
        refine gCRX6_20 C dX6_moveOn_52 (W.lt 52 (by decide)) (sh_52 W) rfl ?_
        refine j_iload_n C dX6_moveOn_55 rfl rfl ?_
        refine j_iload_n C dX6_moveOn_56 rfl rfl ?_
        obtain ⟨p4, hP⟩ := hP
        refine j_iast (k := 54) C dX6_moveOn_57 (W.lt 54 (by decide)) (sh_54 W) p4 ?_
        refine j_aload_n C dX6_moveOn_58 rfl rfl ?_
        refine gCRX6_23 C dX6_moveOn_59 (W.lt 52 (by decide)) (sh_52 W) rfl ?_
        refine j_iload_n C dX6_moveOn_62 rfl rfl ?_
        refine j_iload C dX6_moveOn_63 rfl ?_
        obtain ⟨p10, hP⟩ := hP
        refine j_iast (k := 55) C dX6_moveOn_65 (W.lt 55 (by decide)) (sh_55 W) p10 ?_
        refine j_iconst (v := 1) C dX6_moveOn_66 (by decide) ?_
        exact RETz_u hR bo_1 _ _ dX6_moveOn_67
def FX6_moveOn_16  : Nat → Int32 → Int32 → Int32 → ph_H → Int32 × ph_H
  | 0, _, _, _, h => (0, h)
  | q + 1, x1, x2, x3, h => if (h 53 (x1.toNatClampNeg)) ≤ x3 then ((0, h)) else (FX6_moveOn_29 (FX6_moveOn_16  q) 2000 x1 x3 x2 h)
def PX6_moveOn_16  : Nat → Int32 → Int32 → Int32 → ph_H → Prop
  | 0, _, _, _, _ => False
  | q + 1, x1, x2, x3, h => vp_in x1 2 ∧ (((h 53 (x1.toNatClampNeg)) ≤ x3 → (True)) ∧ (¬ (h 53 (x1.toNatClampNeg)) ≤ x3 → (PX6_moveOn_29 (PX6_moveOn_16  q) 2000 x1 x3 x2 h)))
set_option maxRecDepth 100000 in
set_option maxHeartbeats 4000000 in
theorem tX6_moveOn_16 {X : fj_X} {Y : fj_Y} {l0 : Launch} {ad : Nat → Nat} {n : Nat} {S : ph_S} {pr : Nat} (W : WS pr n S) (C : FC X Y l0 cX6_moveOn 5 RX6 ({ frames := 0, cells := 0, slots := 0, locals := 0 } : Room) 0 0 (some .boolean)) : ∀ (q : Nat) (x1 : Int32) (x2 : Int32) (x3 : Int32) (h : ph_H), PX6_moveOn_16  q x1 x2 x3 h → RETz X Y ad n S cX6_moveOn (FX6_moveOn_16  q x1 x2 x3 h) → FJ X Y ad n S h 16 [(0, .ref (ad 52)), (1, .int x1), (2, .int x2), (3, .int x3)] [] := by
  intro q
  induction q with
  | zero =>
    intro x1 x2 x3 h hP hR
    exact absurd hP id
  | succ q ih =>
    intro x1 x2 x3 h hP hR
    unfold PX6_moveOn_16 at hP
    unfold FX6_moveOn_16 at hR
    refine j_iload_n C dX6_moveOn_16 rfl rfl ?_
    refine j_aload_n C dX6_moveOn_17 rfl rfl ?_
    refine gCRX6_16 C dX6_moveOn_18 (W.lt 52 (by decide)) (sh_52 W) rfl ?_
    refine j_iload_n C dX6_moveOn_21 rfl rfl ?_
    obtain ⟨p4, hP⟩ := hP
    refine j_iald (k := 53) (v := (h 53 (x1.toNatClampNeg))) C dX6_moveOn_22 (W.lt 53 (by decide)) (sh_53 W) p4 rfl ?_
    refine j_icmp_ge (tgt := 82) C dX6_moveOn_23 (by decide) (fun c0 => ?_) (fun c0 => ?_)
    · have hP := hP.1 c0
      rw [if_pos c0] at hR
      refine j_iconst (v := 0) C dX6_moveOn_82 (by decide) ?_
      exact RETz_u hR bo_0 _ _ dX6_moveOn_83
    · have hP := hP.2 c0
      rw [if_neg c0] at hR
      refine j_iload_n C dX6_moveOn_26 rfl rfl ?_
      refine j_istore C dX6_moveOn_27 (by decide) rfl ?_
      exact j_vl (tX6_moveOn_29 W C (FX6_moveOn_16  q) (PX6_moveOn_16  q) (ih) 2000 x1 x3 x2 h hP hR) ⟨rfl, rfl, rfl, rfl, trivial⟩
def FX6_moveOn (a0 : Int32) (h : ph_H) : Int32 × ph_H := FX6_moveOn_16 2000 a0 ((h 55 (a0.toNatClampNeg)) + 1) (h 54 (a0.toNatClampNeg)) h
def PX6_moveOn (a0 : Int32) (h : ph_H) : Prop := vp_in a0 2 ∧ (vp_in a0 2 ∧ (PX6_moveOn_16 2000 a0 ((h 55 (a0.toNatClampNeg)) + 1) (h 54 (a0.toNatClampNeg)) h))
set_option maxRecDepth 100000 in
set_option maxHeartbeats 4000000 in
theorem tX6_moveOn {X : fj_X} {Y : fj_Y} {l0 : Launch} {ad : Nat → Nat} {n : Nat} {S : ph_S} {pr : Nat} (W : WS pr n S) (C : FC X Y l0 cX6_moveOn 5 RX6 ({ frames := 0, cells := 0, slots := 0, locals := 0 } : Room) 0 0 (some .boolean)) (a0 : Int32) (h : ph_H) (hP : PX6_moveOn a0 h) (hR : RETz X Y ad n S cX6_moveOn (FX6_moveOn a0 h)) : FJ X Y ad n S h 0 [(0, .ref (ad 52)), (1, .int a0)] [] := by
  unfold PX6_moveOn at hP
  unfold FX6_moveOn at hR
  refine j_aload_n C dX6_moveOn_0 rfl rfl ?_
  refine gCRX6_23 C dX6_moveOn_1 (W.lt 52 (by decide)) (sh_52 W) rfl ?_
  refine j_iload_n C dX6_moveOn_4 rfl rfl ?_
  obtain ⟨p3, hP⟩ := hP
  refine j_iald (k := 55) (v := (h 55 (a0.toNatClampNeg))) C dX6_moveOn_5 (W.lt 55 (by decide)) (sh_55 W) p3 rfl ?_
  refine j_iconst (v := 1) C dX6_moveOn_6 (by decide) ?_
  refine j_iadd C dX6_moveOn_7 ?_
  refine j_istore_n C dX6_moveOn_8 rfl (by decide) rfl ?_
  refine j_aload_n C dX6_moveOn_9 rfl rfl ?_
  refine gCRX6_20 C dX6_moveOn_10 (W.lt 52 (by decide)) (sh_52 W) rfl ?_
  refine j_iload_n C dX6_moveOn_13 rfl rfl ?_
  obtain ⟨p11, hP⟩ := hP
  refine j_iald (k := 54) (v := (h 54 (a0.toNatClampNeg))) C dX6_moveOn_14 (W.lt 54 (by decide)) (sh_54 W) p11 rfl ?_
  refine j_istore_n C dX6_moveOn_15 rfl (by decide) rfl ?_
  exact j_vl (tX6_moveOn_16 W C 2000 a0 ((h 55 (a0.toNatClampNeg)) + 1) (h 54 (a0.toNatClampNeg)) h hP hR) ⟨rfl, rfl, rfl, rfl, trivial⟩
theorem MX6_moveOn {l0 : Launch} {Y : fj_Y} {ad : Nat → Nat} {n : Nat} {S : ph_S} {pr : Nat} (W : WS pr n S) (a0 : Int32) (h : ph_H) (hP : PX6_moveOn a0 h) : MI l0 yX6_moveOn cX6_moveOn 5 (some .boolean) ({ frames := 0, cells := 0, slots := 0, locals := 0 } : Room) Y ad n S h [.ref (ad 52), .int a0] (fun r S' h' => S' = S ∧ h' = (FX6_moveOn a0 h).2 ∧ r = (FX6_moveOn a0 h).1 ∧ bo r) := met_i (by decide) (Nat.le_of_ble_eq_true rfl) (fun _ _ _ q => bo_n q.2.2.2) (fun X C K => j_vl (tX6_moveOn W C a0 h hP (fun b pc lv hd => K _ _ _ ⟨rfl, rfl, rfl, b⟩ pc lv hd)) ⟨rfl, rfl, trivial⟩)

-- X6_putChangesc1
def FX6_putChangesc1_71 (L16 : Int32 → ph_H → Int32 × ph_H) (x1 : Int32) (h : ph_H) : Int32 × ph_H := L16 (x1 + 1) h
def PX6_putChangesc1_71 (LP16 : Int32 → ph_H → Prop) (x1 : Int32) (h : ph_H) : Prop := LP16 (x1 + 1) h
set_option maxRecDepth 100000 in
set_option maxHeartbeats 4000000 in
theorem tX6_putChangesc1_71 {X : fj_X} {Y : fj_Y} {l0 : Launch} {ad : Nat → Nat} {n : Nat} {S : ph_S} (W : WS 1 n S) (C : FC X Y l0 cX6_putChanges 2 RX6 ({ frames := 5, cells := 0, slots := 0, locals := 120 } : Room) 0 0 (some .boolean)) (L16 : Int32 → ph_H → Int32 × ph_H) (LP16 : Int32 → ph_H → Prop) (hL16 : ∀ (x1 : Int32) (h : ph_H), LP16 x1 h → RETz X Y ad n S cX6_putChanges (L16 x1 h) → FJ X Y ad n S h 16 [(0, .ref (ad 52)), (1, .int x1)] []) (x1 : Int32) (h : ph_H) (hP : PX6_putChangesc1_71 LP16 x1 h) (hR : RETz X Y ad n S cX6_putChanges (FX6_putChangesc1_71 L16 x1 h)) : FJ X Y ad n S h 71 [(0, .ref (ad 52)), (1, .int x1)] [] := by
  unfold PX6_putChangesc1_71 at hP
  unfold FX6_putChangesc1_71 at hR
  refine j_iinc (v := (x1 + 1)) C dX6_putChanges_71 rfl rfl (by decide) rfl ?_
  refine j_goto (tgt := 16) C dX6_putChanges_74 (by decide) ?_
  exact j_vl (hL16 (x1 + 1) h hP hR) ⟨rfl, rfl, trivial⟩
def FX6_putChangesc1_53 (L16 : Int32 → ph_H → Int32 × ph_H) (x1 : Int32) (h : ph_H) : Int32 × ph_H := FX6_putChangesc1_71 L16 x1 (FX6_putAhead 1 ((h 54 ((0 : Int32).toNatClampNeg)) + 1) (hs h 52 6 2))
def PX6_putChangesc1_53 (LP16 : Int32 → ph_H → Prop) (x1 : Int32) (h : ph_H) : Prop := vp_in 0 2 ∧ ((PX6_putAhead 1 ((h 54 ((0 : Int32).toNatClampNeg)) + 1) (hs h 52 6 2)) ∧ (PX6_putChangesc1_71 LP16 x1 (FX6_putAhead 1 ((h 54 ((0 : Int32).toNatClampNeg)) + 1) (hs h 52 6 2))))
set_option maxRecDepth 100000 in
set_option maxHeartbeats 4000000 in
theorem tX6_putChangesc1_53 {X : fj_X} {Y : fj_Y} {l0 : Launch} {ad : Nat → Nat} {n : Nat} {S : ph_S} (W : WS 1 n S) (C : FC X Y l0 cX6_putChanges 2 RX6 ({ frames := 5, cells := 0, slots := 0, locals := 120 } : Room) 0 0 (some .boolean)) (L16 : Int32 → ph_H → Int32 × ph_H) (LP16 : Int32 → ph_H → Prop) (hL16 : ∀ (x1 : Int32) (h : ph_H), LP16 x1 h → RETz X Y ad n S cX6_putChanges (L16 x1 h) → FJ X Y ad n S h 16 [(0, .ref (ad 52)), (1, .int x1)] []) (x1 : Int32) (h : ph_H) (hP : PX6_putChangesc1_53 LP16 x1 h) (hR : RETz X Y ad n S cX6_putChanges (FX6_putChangesc1_53 L16 x1 h)) : FJ X Y ad n S h 53 [(0, .ref (ad 52)), (1, .int x1)] [] := by
  unfold PX6_putChangesc1_53 at hP
  unfold FX6_putChangesc1_53 at hR
  refine j_aload_n C dX6_putChanges_53 rfl rfl ?_
  refine j_iconst (v := 2) C dX6_putChanges_54 (by decide) ?_
  refine pCRX6_34 C dX6_putChanges_55 (W.lt 52 (by decide)) (sh_52 W) rfl ?_
  refine j_aload_n C dX6_putChanges_58 rfl rfl ?_
  refine j_iconst (v := 1) C dX6_putChanges_59 (by decide) ?_
  refine j_aload_n C dX6_putChanges_60 rfl rfl ?_
  refine gCRX6_20 C dX6_putChanges_61 (W.lt 52 (by decide)) (sh_52 W) rfl ?_
  refine j_iconst (v := 0) C dX6_putChanges_64 (by decide) ?_
  obtain ⟨p8, hP⟩ := hP
  refine j_iald (k := 54) (v := (h 54 ((0 : Int32).toNatClampNeg))) C dX6_putChanges_65 (W.lt 54 (by decide)) (sh_54 W) p8 (hz_k (by decide)) ?_
  refine j_iconst (v := 1) C dX6_putChanges_66 (by decide) ?_
  refine j_iadd C dX6_putChanges_67 ?_
  obtain ⟨p12, hP⟩ := hP
  refine j_callVv C (MX6_putAhead W 1 ((h 54 ((0 : Int32).toNatClampNeg)) + 1) (hs h 52 6 2) p12) dX6_putChanges_68 (CKX6_putAhead (by decide)) ⟨rfl, rfl⟩ lk_RX6_48 in_X6_putAhead se_X6_putAhead (W.lt 52 (by decide)) (sh_52 W) rfl rfl (Nat.le_of_ble_eq_true rfl) ?_
  intro S' h' hq
  obtain ⟨e1, e2⟩ := hq
  rw [e1, e2]
  exact j_vl (tX6_putChangesc1_71 W C L16 LP16 hL16 x1 (FX6_putAhead 1 ((h 54 ((0 : Int32).toNatClampNeg)) + 1) (hs h 52 6 2)) hP hR) ⟨rfl, rfl, trivial⟩
def FX6_putChangesc1_38 (L16 : Int32 → ph_H → Int32 × ph_H) (x1 : Int32) (s0 : Int32) (h : ph_H) : Int32 × ph_H := if s0 = 0 then ((0, h)) else (FX6_putChangesc1_53 L16 x1 (FX6_goThroughc1 1 (hs h 52 6 1)))
def PX6_putChangesc1_38 (LP16 : Int32 → ph_H → Prop) (x1 : Int32) (s0 : Int32) (h : ph_H) : Prop := (s0 = 0 → (True)) ∧ (¬ s0 = 0 → ((PX6_goThroughc1 1 (hs h 52 6 1)) ∧ (PX6_putChangesc1_53 LP16 x1 (FX6_goThroughc1 1 (hs h 52 6 1)))))
set_option maxRecDepth 100000 in
set_option maxHeartbeats 4000000 in
theorem tX6_putChangesc1_38 {X : fj_X} {Y : fj_Y} {l0 : Launch} {ad : Nat → Nat} {n : Nat} {S : ph_S} (W : WS 1 n S) (C : FC X Y l0 cX6_putChanges 2 RX6 ({ frames := 5, cells := 0, slots := 0, locals := 120 } : Room) 0 0 (some .boolean)) (L16 : Int32 → ph_H → Int32 × ph_H) (LP16 : Int32 → ph_H → Prop) (hL16 : ∀ (x1 : Int32) (h : ph_H), LP16 x1 h → RETz X Y ad n S cX6_putChanges (L16 x1 h) → FJ X Y ad n S h 16 [(0, .ref (ad 52)), (1, .int x1)] []) (x1 : Int32) (s0 : Int32) (h : ph_H) (hP : PX6_putChangesc1_38 LP16 x1 s0 h) (hR : RETz X Y ad n S cX6_putChanges (FX6_putChangesc1_38 L16 x1 s0 h)) : FJ X Y ad n S h 38 [(0, .ref (ad 52)), (1, .int x1)] [.int s0] := by
  unfold PX6_putChangesc1_38 at hP
  unfold FX6_putChangesc1_38 at hR
  refine j_if_ne (tgt := 43) C dX6_putChanges_38 (by decide) (fun c0 => ?_) (fun c0 => ?_)
  · have hP := hP.2 c0
    rw [if_neg c0] at hR
    refine j_aload_n C dX6_putChanges_43 rfl rfl ?_
    refine j_iconst (v := 1) C dX6_putChanges_44 (by decide) ?_
    refine pCRX6_34 C dX6_putChanges_45 (W.lt 52 (by decide)) (sh_52 W) rfl ?_
    refine j_aload_n C dX6_putChanges_48 rfl rfl ?_
    refine j_iconst (v := 1) C dX6_putChanges_49 (by decide) ?_
    obtain ⟨p5, hP⟩ := hP
    refine j_callVv C (MX6_goThroughc1 W 1 (hs h 52 6 1) p5) dX6_putChanges_50 (CKX6_goThrough (by decide)) ⟨rfl, rfl⟩ lk_RX6_41 in_X6_goThrough se_X6_goThrough (W.lt 52 (by decide)) (sh_52 W) rfl rfl (Nat.le_of_ble_eq_true rfl) ?_
    intro S' h' hq
    obtain ⟨e1, e2⟩ := hq
    rw [e1, e2]
    exact j_vl (tX6_putChangesc1_53 W C L16 LP16 hL16 x1 (FX6_goThroughc1 1 (hs h 52 6 1)) hP hR) ⟨rfl, rfl, trivial⟩
  · have hP := hP.1 c0
    rw [if_pos c0] at hR
    refine j_iconst (v := 0) C dX6_putChanges_41 (by decide) ?_
    exact RETz_u hR bo_0 _ _ dX6_putChanges_42
def FX6_putChangesc1_28 (L16 : Int32 → ph_H → Int32 × ph_H) (x1 : Int32) (s0 : Int32) (h : ph_H) : Int32 × ph_H := if s0 = 0 then (FX6_putChangesc1_38 L16 x1 ((FX6_moveOn 0 h).1) ((FX6_moveOn 0 h).2)) else ((1, h))
def PX6_putChangesc1_28 (LP16 : Int32 → ph_H → Prop) (x1 : Int32) (s0 : Int32) (h : ph_H) : Prop := (s0 = 0 → ((PX6_moveOn 0 h) ∧ (PX6_putChangesc1_38 LP16 x1 ((FX6_moveOn 0 h).1) ((FX6_moveOn 0 h).2)))) ∧ (¬ s0 = 0 → (True))
set_option maxRecDepth 100000 in
set_option maxHeartbeats 4000000 in
theorem tX6_putChangesc1_28 {X : fj_X} {Y : fj_Y} {l0 : Launch} {ad : Nat → Nat} {n : Nat} {S : ph_S} (W : WS 1 n S) (C : FC X Y l0 cX6_putChanges 2 RX6 ({ frames := 5, cells := 0, slots := 0, locals := 120 } : Room) 0 0 (some .boolean)) (L16 : Int32 → ph_H → Int32 × ph_H) (LP16 : Int32 → ph_H → Prop) (hL16 : ∀ (x1 : Int32) (h : ph_H), LP16 x1 h → RETz X Y ad n S cX6_putChanges (L16 x1 h) → FJ X Y ad n S h 16 [(0, .ref (ad 52)), (1, .int x1)] []) (x1 : Int32) (s0 : Int32) (h : ph_H) (hP : PX6_putChangesc1_28 LP16 x1 s0 h) (hR : RETz X Y ad n S cX6_putChanges (FX6_putChangesc1_28 L16 x1 s0 h)) : FJ X Y ad n S h 28 [(0, .ref (ad 52)), (1, .int x1)] [.int s0] := by
  unfold PX6_putChangesc1_28 at hP
  unfold FX6_putChangesc1_28 at hR
  refine j_if_eq (tgt := 33) C dX6_putChanges_28 (by decide) (fun c0 => ?_) (fun c0 => ?_)
  · have hP := hP.1 c0
    rw [if_pos c0] at hR
    refine j_aload_n C dX6_putChanges_33 rfl rfl ?_
    refine j_iconst (v := 0) C dX6_putChanges_34 (by decide) ?_
    obtain ⟨p2, hP⟩ := hP
    refine j_callV C (MX6_moveOn W 0 h p2) dX6_putChanges_35 (CKX6_moveOn (by decide)) ⟨rfl, rfl⟩ lk_RX6_60 in_X6_moveOn se_X6_moveOn (W.lt 52 (by decide)) (sh_52 W) rfl rfl (Nat.le_of_ble_eq_true rfl) ?_
    intro r S' h' hq
    obtain ⟨e1, e2, e3, hb4⟩ := hq
    rw [e1, e2, e3]
    exact j_vl (tX6_putChangesc1_38 W C L16 LP16 hL16 x1 ((FX6_moveOn 0 h).1) ((FX6_moveOn 0 h).2) hP hR) ⟨rfl, rfl, trivial⟩
  · have hP := hP.2 c0
    rw [if_neg c0] at hR
    refine j_iconst (v := 1) C dX6_putChanges_31 (by decide) ?_
    exact RETz_u hR bo_1 _ _ dX6_putChanges_32
def FX6_putChangesc1_16  : Nat → Int32 → ph_H → Int32 × ph_H
  | 0, _, h => (0, h)
  | q + 1, x1, h => if 1200 ≤ x1 then ((0, h)) else (FX6_putChangesc1_28 (FX6_putChangesc1_16  q) x1 ((FX6_moveOn 1 h).1) ((FX6_moveOn 1 h).2))
def PX6_putChangesc1_16  : Nat → Int32 → ph_H → Prop
  | 0, _, _ => False
  | q + 1, x1, h => (1200 ≤ x1 → (True)) ∧ (¬ 1200 ≤ x1 → ((PX6_moveOn 1 h) ∧ (PX6_putChangesc1_28 (PX6_putChangesc1_16  q) x1 ((FX6_moveOn 1 h).1) ((FX6_moveOn 1 h).2))))
set_option maxRecDepth 100000 in
set_option maxHeartbeats 4000000 in
theorem tX6_putChangesc1_16 {X : fj_X} {Y : fj_Y} {l0 : Launch} {ad : Nat → Nat} {n : Nat} {S : ph_S} (W : WS 1 n S) (C : FC X Y l0 cX6_putChanges 2 RX6 ({ frames := 5, cells := 0, slots := 0, locals := 120 } : Room) 0 0 (some .boolean)) : ∀ (q : Nat) (x1 : Int32) (h : ph_H), PX6_putChangesc1_16  q x1 h → RETz X Y ad n S cX6_putChanges (FX6_putChangesc1_16  q x1 h) → FJ X Y ad n S h 16 [(0, .ref (ad 52)), (1, .int x1)] [] := by
  intro q
  induction q with
  | zero =>
    intro x1 h hP hR
    exact absurd hP id
  | succ q ih =>
    intro x1 h hP hR
    unfold PX6_putChangesc1_16 at hP
    unfold FX6_putChangesc1_16 at hR
    refine j_iload_n C dX6_putChanges_16 rfl rfl ?_
    refine j_sipush (v := 1200) C dX6_putChanges_17 (by decide) ?_
    refine j_icmp_ge (tgt := 77) C dX6_putChanges_20 (by decide) (fun c0 => ?_) (fun c0 => ?_)
    · have hP := hP.1 c0
      rw [if_pos c0] at hR
      refine j_iconst (v := 0) C dX6_putChanges_77 (by decide) ?_
      exact RETz_u hR bo_0 _ _ dX6_putChanges_78
    · have hP := hP.2 c0
      rw [if_neg c0] at hR
      refine j_aload_n C dX6_putChanges_23 rfl rfl ?_
      refine j_iconst (v := 1) C dX6_putChanges_24 (by decide) ?_
      obtain ⟨p2, hP⟩ := hP
      refine j_callV C (MX6_moveOn W 1 h p2) dX6_putChanges_25 (CKX6_moveOn (by decide)) ⟨rfl, rfl⟩ lk_RX6_60 in_X6_moveOn se_X6_moveOn (W.lt 52 (by decide)) (sh_52 W) rfl rfl (Nat.le_of_ble_eq_true rfl) ?_
      intro r S' h' hq
      obtain ⟨e1, e2, e3, hb4⟩ := hq
      rw [e1, e2, e3]
      exact j_vl (tX6_putChangesc1_28 W C (FX6_putChangesc1_16  q) (PX6_putChangesc1_16  q) (ih) x1 ((FX6_moveOn 1 h).1) ((FX6_moveOn 1 h).2) hP hR) ⟨rfl, rfl, trivial⟩
def FX6_putChangesc1 (h : ph_H) : Int32 × ph_H := if (h 52 6) = 1 then (((FX6_moveOn 0 h).1, (FX6_moveOn 0 h).2)) else (FX6_putChangesc1_16 2000 0 h)
def PX6_putChangesc1 (h : ph_H) : Prop := ((h 52 6) = 1 → ((PX6_moveOn 0 h) ∧ (bo ((FX6_moveOn 0 h).1) ∧ (True)))) ∧ (¬ (h 52 6) = 1 → (PX6_putChangesc1_16 2000 0 h))
set_option maxRecDepth 100000 in
set_option maxHeartbeats 4000000 in
theorem tX6_putChangesc1 {X : fj_X} {Y : fj_Y} {l0 : Launch} {ad : Nat → Nat} {n : Nat} {S : ph_S} (W : WS 1 n S) (C : FC X Y l0 cX6_putChanges 2 RX6 ({ frames := 5, cells := 0, slots := 0, locals := 120 } : Room) 0 0 (some .boolean)) (h : ph_H) (hP : PX6_putChangesc1 h) (hR : RETz X Y ad n S cX6_putChanges (FX6_putChangesc1 h)) : FJ X Y ad n S h 0 [(0, .ref (ad 52))] [] := by
  unfold PX6_putChangesc1 at hP
  unfold FX6_putChangesc1 at hR
  refine j_aload_n C dX6_putChanges_0 rfl rfl ?_
  refine gCRX6_34 (v := (h 52 6)) C dX6_putChanges_1 (W.lt 52 (by decide)) (sh_52 W) rfl rfl ?_
  refine j_iconst (v := 1) C dX6_putChanges_4 (by decide) ?_
  refine j_icmp_ne (tgt := 14) C dX6_putChanges_5 (by decide) (fun c0 => ?_) (fun c0 => ?_)
  · have hP := hP.2 c0
    rw [if_neg c0] at hR
    refine j_iconst (v := 0) C dX6_putChanges_14 (by decide) ?_
    refine j_istore_n C dX6_putChanges_15 rfl (by decide) rfl ?_
    exact j_vl (tX6_putChangesc1_16 W C 2000 0 h hP hR) ⟨rfl, rfl, trivial⟩
  · have hP := hP.1 c0
    rw [if_pos c0] at hR
    refine j_aload_n C dX6_putChanges_8 rfl rfl ?_
    refine j_iconst (v := 0) C dX6_putChanges_9 (by decide) ?_
    obtain ⟨p2, hP⟩ := hP
    refine j_callV C (MX6_moveOn W 0 h p2) dX6_putChanges_10 (CKX6_moveOn (by decide)) ⟨rfl, rfl⟩ lk_RX6_60 in_X6_moveOn se_X6_moveOn (W.lt 52 (by decide)) (sh_52 W) rfl rfl (Nat.le_of_ble_eq_true rfl) ?_
    intro r S' h' hq
    obtain ⟨e1, e2, e3, hb4⟩ := hq
    rw [e1, e2, e3]
    obtain ⟨p7, hP⟩ := hP
    exact RETz_u hR p7 _ _ dX6_putChanges_13
theorem MX6_putChangesc1 {l0 : Launch} {Y : fj_Y} {ad : Nat → Nat} {n : Nat} {S : ph_S} (W : WS 1 n S) (h : ph_H) (hP : PX6_putChangesc1 h) : MI l0 yX6_putChanges cX6_putChanges 2 (some .boolean) ({ frames := 5, cells := 0, slots := 0, locals := 120 } : Room) Y ad n S h [.ref (ad 52)] (fun r S' h' => S' = S ∧ h' = (FX6_putChangesc1 h).2 ∧ r = (FX6_putChangesc1 h).1 ∧ bo r) := met_i (by decide) (Nat.le_of_ble_eq_true rfl) (fun _ _ _ q => bo_n q.2.2.2) (fun X C K => j_vl (tX6_putChangesc1 W C h hP (fun b pc lv hd => K _ _ _ ⟨rfl, rfl, rfl, b⟩ pc lv hd)) ⟨rfl, trivial⟩)

-- X6_look
def FX6_look_84 (L17 : Int32 → Int32 → Int32 → ph_H → Int32 × ph_H) (L47 : Int32 → Int32 → Int32 → ph_H → Int32 × ph_H) (x1 : Int32) (x2 : Int32) (x3 : Int32) (h : ph_H) : Int32 × ph_H := L47 x1 x2 x3 h
def PX6_look_84 (LP17 : Int32 → Int32 → Int32 → ph_H → Prop) (LP47 : Int32 → Int32 → Int32 → ph_H → Prop) (x1 : Int32) (x2 : Int32) (x3 : Int32) (h : ph_H) : Prop := LP47 x1 x2 x3 h
set_option maxRecDepth 100000 in
set_option maxHeartbeats 4000000 in
theorem tX6_look_84 {X : fj_X} {Y : fj_Y} {l0 : Launch} {ad : Nat → Nat} {n : Nat} {S : ph_S} (W : WS 1 n S) (C : FC X Y l0 cX6_look 4 RX6 ({ frames := 6, cells := 0, slots := 0, locals := 141 } : Room) 0 0 (some .int)) (L17 : Int32 → Int32 → Int32 → ph_H → Int32 × ph_H) (LP17 : Int32 → Int32 → Int32 → ph_H → Prop) (hL17 : ∀ (x1 : Int32) (x2 : Int32) (x3 : Int32) (h : ph_H), LP17 x1 x2 x3 h → RETi X Y ad n S cX6_look (L17 x1 x2 x3 h) → FJ X Y ad n S h 17 [(0, .ref (ad 52)), (1, .int x1), (2, .int x2), (3, .int x3)] []) (L47 : Int32 → Int32 → Int32 → ph_H → Int32 × ph_H) (LP47 : Int32 → Int32 → Int32 → ph_H → Prop) (hL47 : ∀ (x1 : Int32) (x2 : Int32) (x3 : Int32) (h : ph_H), LP47 x1 x2 x3 h → RETi X Y ad n S cX6_look (L47 x1 x2 x3 h) → FJ X Y ad n S h 47 [(0, .ref (ad 52)), (1, .int x1), (2, .int x2), (3, .int x3)] []) (x1 : Int32) (x2 : Int32) (x3 : Int32) (h : ph_H) (hP : PX6_look_84 LP17 LP47 x1 x2 x3 h) (hR : RETi X Y ad n S cX6_look (FX6_look_84 L17 L47 x1 x2 x3 h)) : FJ X Y ad n S h 84 [(0, .ref (ad 52)), (1, .int x1), (2, .int x2), (3, .int x3)] [] := by
  unfold PX6_look_84 at hP
  unfold FX6_look_84 at hR
  refine j_goto (tgt := 47) C dX6_look_84 (by decide) ?_
  exact j_vl (hL47 x1 x2 x3 h hP hR) ⟨rfl, rfl, rfl, rfl, trivial⟩
def FX6_look_87 (L17 : Int32 → Int32 → Int32 → ph_H → Int32 × ph_H) (x1 : Int32) (x2 : Int32) (x3 : Int32) (h : ph_H) : Int32 × ph_H := L17 x1 x2 (x3 + 1) h
def PX6_look_87 (LP17 : Int32 → Int32 → Int32 → ph_H → Prop) (x1 : Int32) (x2 : Int32) (x3 : Int32) (h : ph_H) : Prop := LP17 x1 x2 (x3 + 1) h
set_option maxRecDepth 100000 in
set_option maxHeartbeats 4000000 in
theorem tX6_look_87 {X : fj_X} {Y : fj_Y} {l0 : Launch} {ad : Nat → Nat} {n : Nat} {S : ph_S} (W : WS 1 n S) (C : FC X Y l0 cX6_look 4 RX6 ({ frames := 6, cells := 0, slots := 0, locals := 141 } : Room) 0 0 (some .int)) (L17 : Int32 → Int32 → Int32 → ph_H → Int32 × ph_H) (LP17 : Int32 → Int32 → Int32 → ph_H → Prop) (hL17 : ∀ (x1 : Int32) (x2 : Int32) (x3 : Int32) (h : ph_H), LP17 x1 x2 x3 h → RETi X Y ad n S cX6_look (L17 x1 x2 x3 h) → FJ X Y ad n S h 17 [(0, .ref (ad 52)), (1, .int x1), (2, .int x2), (3, .int x3)] []) (x1 : Int32) (x2 : Int32) (x3 : Int32) (h : ph_H) (hP : PX6_look_87 LP17 x1 x2 x3 h) (hR : RETi X Y ad n S cX6_look (FX6_look_87 L17 x1 x2 x3 h)) : FJ X Y ad n S h 87 [(0, .ref (ad 52)), (1, .int x1), (2, .int x2), (3, .int x3)] [] := by
  unfold PX6_look_87 at hP
  unfold FX6_look_87 at hR
  refine j_iinc (v := (x3 + 1)) C dX6_look_87 rfl rfl (by decide) rfl ?_
  refine j_goto (tgt := 17) C dX6_look_90 (by decide) ?_
  exact j_vl (hL17 x1 x2 (x3 + 1) h hP hR) ⟨rfl, rfl, rfl, rfl, trivial⟩
def FX6_look_66 (L17 : Int32 → Int32 → Int32 → ph_H → Int32 × ph_H) (L47 : Int32 → Int32 → Int32 → ph_H → Int32 × ph_H) (x1 : Int32) (x2 : Int32) (x3 : Int32) (s0 : Int32) (h : ph_H) : Int32 × ph_H := if s0 = 0 then (FX6_look_87 L17 x1 x2 x3 h) else (FX6_look_84 L17 L47 x1 x2 x3 (FX6_goThroughc1 (-1) (hs h 52 9 ((h 52 9) + 1))))
def PX6_look_66 (LP17 : Int32 → Int32 → Int32 → ph_H → Prop) (LP47 : Int32 → Int32 → Int32 → ph_H → Prop) (x1 : Int32) (x2 : Int32) (x3 : Int32) (s0 : Int32) (h : ph_H) : Prop := (s0 = 0 → (PX6_look_87 LP17 x1 x2 x3 h)) ∧ (¬ s0 = 0 → ((PX6_goThroughc1 (-1) (hs h 52 9 ((h 52 9) + 1))) ∧ (PX6_look_84 LP17 LP47 x1 x2 x3 (FX6_goThroughc1 (-1) (hs h 52 9 ((h 52 9) + 1))))))
set_option maxRecDepth 100000 in
set_option maxHeartbeats 4000000 in
theorem tX6_look_66 {X : fj_X} {Y : fj_Y} {l0 : Launch} {ad : Nat → Nat} {n : Nat} {S : ph_S} (W : WS 1 n S) (C : FC X Y l0 cX6_look 4 RX6 ({ frames := 6, cells := 0, slots := 0, locals := 141 } : Room) 0 0 (some .int)) (L17 : Int32 → Int32 → Int32 → ph_H → Int32 × ph_H) (LP17 : Int32 → Int32 → Int32 → ph_H → Prop) (hL17 : ∀ (x1 : Int32) (x2 : Int32) (x3 : Int32) (h : ph_H), LP17 x1 x2 x3 h → RETi X Y ad n S cX6_look (L17 x1 x2 x3 h) → FJ X Y ad n S h 17 [(0, .ref (ad 52)), (1, .int x1), (2, .int x2), (3, .int x3)] []) (L47 : Int32 → Int32 → Int32 → ph_H → Int32 × ph_H) (LP47 : Int32 → Int32 → Int32 → ph_H → Prop) (hL47 : ∀ (x1 : Int32) (x2 : Int32) (x3 : Int32) (h : ph_H), LP47 x1 x2 x3 h → RETi X Y ad n S cX6_look (L47 x1 x2 x3 h) → FJ X Y ad n S h 47 [(0, .ref (ad 52)), (1, .int x1), (2, .int x2), (3, .int x3)] []) (x1 : Int32) (x2 : Int32) (x3 : Int32) (s0 : Int32) (h : ph_H) (hP : PX6_look_66 LP17 LP47 x1 x2 x3 s0 h) (hR : RETi X Y ad n S cX6_look (FX6_look_66 L17 L47 x1 x2 x3 s0 h)) : FJ X Y ad n S h 66 [(0, .ref (ad 52)), (1, .int x1), (2, .int x2), (3, .int x3)] [.int s0] := by
  unfold PX6_look_66 at hP
  unfold FX6_look_66 at hR
  refine j_if_eq (tgt := 87) C dX6_look_66 (by decide) (fun c0 => ?_) (fun c0 => ?_)
  · have hP := hP.1 c0
    rw [if_pos c0] at hR
    exact j_vl (tX6_look_87 W C L17 LP17 hL17 x1 x2 x3 h hP hR) ⟨rfl, rfl, rfl, rfl, trivial⟩
  · have hP := hP.2 c0
    rw [if_neg c0] at hR
    refine j_aload_n C dX6_look_69 rfl rfl ?_
    refine j_dup C dX6_look_70 rfl ?_
    refine gCRX6_38 (v := (h 52 9)) C dX6_look_71 (W.lt 52 (by decide)) (sh_52 W) rfl rfl ?_
    refine j_iconst (v := 1) C dX6_look_74 (by decide) ?_
    refine j_iadd C dX6_look_75 ?_
    refine pCRX6_38 C dX6_look_76 (W.lt 52 (by decide)) (sh_52 W) rfl ?_
    refine j_aload_n C dX6_look_79 rfl rfl ?_
    refine j_iconst (v := (-1)) C dX6_look_80 (by decide) ?_
    obtain ⟨p8, hP⟩ := hP
    refine j_callVv C (MX6_goThroughc1 W (-1) (hs h 52 9 ((h 52 9) + 1)) p8) dX6_look_81 (CKX6_goThrough (by decide)) ⟨rfl, rfl⟩ lk_RX6_41 in_X6_goThrough se_X6_goThrough (W.lt 52 (by decide)) (sh_52 W) rfl rfl (Nat.le_of_ble_eq_true rfl) ?_
    intro S' h' hq
    obtain ⟨e1, e2⟩ := hq
    rw [e1, e2]
    exact j_vl (tX6_look_84 W C L17 LP17 hL17 L47 LP47 hL47 x1 x2 x3 (FX6_goThroughc1 (-1) (hs h 52 9 ((h 52 9) + 1))) hP hR) ⟨rfl, rfl, rfl, rfl, trivial⟩
def FX6_look_47 (L17 : Int32 → Int32 → Int32 → ph_H → Int32 × ph_H) : Nat → Int32 → Int32 → Int32 → ph_H → Int32 × ph_H
  | 0, _, _, _, h => (0, h)
  | q + 1, x1, x2, x3, h => if x2 ≤ (h 52 9) then (FX6_look_87 L17 x1 x2 x3 h) else (if (h 52 8) = 0 then (FX6_look_66 L17 (FX6_look_47 L17 q) x1 x2 x3 ((FX6_putChangesc1 h).1) ((FX6_putChangesc1 h).2)) else (FX6_look_87 L17 x1 x2 x3 h))
def PX6_look_47 (LP17 : Int32 → Int32 → Int32 → ph_H → Prop) : Nat → Int32 → Int32 → Int32 → ph_H → Prop
  | 0, _, _, _, _ => False
  | q + 1, x1, x2, x3, h => (x2 ≤ (h 52 9) → (PX6_look_87 LP17 x1 x2 x3 h)) ∧ (¬ x2 ≤ (h 52 9) → (((h 52 8) = 0 → ((PX6_putChangesc1 h) ∧ (PX6_look_66 LP17 (PX6_look_47 LP17 q) x1 x2 x3 ((FX6_putChangesc1 h).1) ((FX6_putChangesc1 h).2)))) ∧ (¬ (h 52 8) = 0 → (PX6_look_87 LP17 x1 x2 x3 h))))
set_option maxRecDepth 100000 in
set_option maxHeartbeats 4000000 in
theorem tX6_look_47 {X : fj_X} {Y : fj_Y} {l0 : Launch} {ad : Nat → Nat} {n : Nat} {S : ph_S} (W : WS 1 n S) (C : FC X Y l0 cX6_look 4 RX6 ({ frames := 6, cells := 0, slots := 0, locals := 141 } : Room) 0 0 (some .int)) (L17 : Int32 → Int32 → Int32 → ph_H → Int32 × ph_H) (LP17 : Int32 → Int32 → Int32 → ph_H → Prop) (hL17 : ∀ (x1 : Int32) (x2 : Int32) (x3 : Int32) (h : ph_H), LP17 x1 x2 x3 h → RETi X Y ad n S cX6_look (L17 x1 x2 x3 h) → FJ X Y ad n S h 17 [(0, .ref (ad 52)), (1, .int x1), (2, .int x2), (3, .int x3)] []) : ∀ (q : Nat) (x1 : Int32) (x2 : Int32) (x3 : Int32) (h : ph_H), PX6_look_47 LP17 q x1 x2 x3 h → RETi X Y ad n S cX6_look (FX6_look_47 L17 q x1 x2 x3 h) → FJ X Y ad n S h 47 [(0, .ref (ad 52)), (1, .int x1), (2, .int x2), (3, .int x3)] [] := by
  intro q
  induction q with
  | zero =>
    intro x1 x2 x3 h hP hR
    exact absurd hP id
  | succ q ih =>
    intro x1 x2 x3 h hP hR
    unfold PX6_look_47 at hP
    unfold FX6_look_47 at hR
    refine j_aload_n C dX6_look_47 rfl rfl ?_
    refine gCRX6_38 (v := (h 52 9)) C dX6_look_48 (W.lt 52 (by decide)) (sh_52 W) rfl rfl ?_
    refine j_iload_n C dX6_look_51 rfl rfl ?_
    refine j_icmp_ge (tgt := 87) C dX6_look_52 (by decide) (fun c0 => ?_) (fun c0 => ?_)
    · have hP := hP.1 c0
      rw [if_pos c0] at hR
      exact j_vl (tX6_look_87 W C L17 LP17 hL17 x1 x2 x3 h hP hR) ⟨rfl, rfl, rfl, rfl, trivial⟩
    · have hP := hP.2 c0
      rw [if_neg c0] at hR
      refine j_aload_n C dX6_look_55 rfl rfl ?_
      refine gCRX6_45 (v := (h 52 8)) C dX6_look_56 (W.lt 52 (by decide)) (sh_52 W) rfl rfl ?_
      refine j_if_ne (tgt := 87) C dX6_look_59 (by decide) (fun c1 => ?_) (fun c1 => ?_)
      · have hP := hP.2 c1
        rw [if_neg c1] at hR
        exact j_vl (tX6_look_87 W C L17 LP17 hL17 x1 x2 x3 h hP hR) ⟨rfl, rfl, rfl, rfl, trivial⟩
      · have hP := hP.1 c1
        rw [if_pos c1] at hR
        refine j_aload_n C dX6_look_62 rfl rfl ?_
        obtain ⟨p1, hP⟩ := hP
        refine j_callV C (MX6_putChangesc1 W h p1) dX6_look_63 (CKX6_putChanges (by decide)) ⟨rfl, rfl⟩ lk_RX6_52 in_X6_putChanges se_X6_putChanges (W.lt 52 (by decide)) (sh_52 W) rfl rfl (Nat.le_of_ble_eq_true rfl) ?_
        intro r S' h' hq
        obtain ⟨e1, e2, e3, hb3⟩ := hq
        rw [e1, e2, e3]
        exact j_vl (tX6_look_66 W C L17 LP17 hL17 (FX6_look_47 L17 q) (PX6_look_47 LP17 q) (ih) x1 x2 x3 ((FX6_putChangesc1 h).1) ((FX6_putChangesc1 h).2) hP hR) ⟨rfl, rfl, rfl, rfl, trivial⟩
def FX6_look_40 (L17 : Int32 → Int32 → Int32 → ph_H → Int32 × ph_H) (x1 : Int32) (x2 : Int32) (x3 : Int32) (h : ph_H) : Int32 × ph_H := FX6_look_47 L17 2000 x1 x2 x3 (hs h 53 (1 : Int32).toNatClampNeg 0)
def PX6_look_40 (LP17 : Int32 → Int32 → Int32 → ph_H → Prop) (x1 : Int32) (x2 : Int32) (x3 : Int32) (h : ph_H) : Prop := vp_in 1 2 ∧ (PX6_look_47 LP17 2000 x1 x2 x3 (hs h 53 (1 : Int32).toNatClampNeg 0))
set_option maxRecDepth 100000 in
set_option maxHeartbeats 4000000 in
theorem tX6_look_40 {X : fj_X} {Y : fj_Y} {l0 : Launch} {ad : Nat → Nat} {n : Nat} {S : ph_S} (W : WS 1 n S) (C : FC X Y l0 cX6_look 4 RX6 ({ frames := 6, cells := 0, slots := 0, locals := 141 } : Room) 0 0 (some .int)) (L17 : Int32 → Int32 → Int32 → ph_H → Int32 × ph_H) (LP17 : Int32 → Int32 → Int32 → ph_H → Prop) (hL17 : ∀ (x1 : Int32) (x2 : Int32) (x3 : Int32) (h : ph_H), LP17 x1 x2 x3 h → RETi X Y ad n S cX6_look (L17 x1 x2 x3 h) → FJ X Y ad n S h 17 [(0, .ref (ad 52)), (1, .int x1), (2, .int x2), (3, .int x3)] []) (x1 : Int32) (x2 : Int32) (x3 : Int32) (h : ph_H) (hP : PX6_look_40 LP17 x1 x2 x3 h) (hR : RETi X Y ad n S cX6_look (FX6_look_40 L17 x1 x2 x3 h)) : FJ X Y ad n S h 40 [(0, .ref (ad 52)), (1, .int x1), (2, .int x2), (3, .int x3)] [] := by
  unfold PX6_look_40 at hP
  unfold FX6_look_40 at hR
  refine j_aload_n C dX6_look_40 rfl rfl ?_
  refine gCRX6_16 C dX6_look_41 (W.lt 52 (by decide)) (sh_52 W) rfl ?_
  refine j_iconst (v := 1) C dX6_look_44 (by decide) ?_
  refine j_iconst (v := 0) C dX6_look_45 (by decide) ?_
  obtain ⟨p4, hP⟩ := hP
  refine j_iast (k := 53) C dX6_look_46 (W.lt 53 (by decide)) (sh_53 W) p4 ?_
  exact j_vl (tX6_look_47 W C L17 LP17 hL17 2000 x1 x2 x3 (hs h 53 (1 : Int32).toNatClampNeg 0) hP hR) ⟨rfl, rfl, rfl, rfl, trivial⟩
def FX6_look_106  (s0 : Int32) (h : ph_H) : Int32 × ph_H := if s0 = 0 then ((0, (hs h 52 10 s0))) else (((h 52 9), (hs h 52 10 s0)))
def PX6_look_106  (s0 : Int32) (h : ph_H) : Prop := bo s0 ∧ ((s0 = 0 → (True)) ∧ (¬ s0 = 0 → (True)))
set_option maxRecDepth 100000 in
set_option maxHeartbeats 4000000 in
theorem tX6_look_106 {X : fj_X} {Y : fj_Y} {l0 : Launch} {ad : Nat → Nat} {n : Nat} {S : ph_S} (W : WS 1 n S) (C : FC X Y l0 cX6_look 4 RX6 ({ frames := 6, cells := 0, slots := 0, locals := 141 } : Room) 0 0 (some .int)) (s0 : Int32) (h : ph_H) (hP : PX6_look_106  s0 h) (hR : RETi X Y ad n S cX6_look (FX6_look_106  s0 h)) : FJ X Y ad n S h 106 [(0, .ref (ad 52))] [.int s0, .ref (ad 52)] := by
  unfold PX6_look_106 at hP
  unfold FX6_look_106 at hR
  obtain ⟨p0, hP⟩ := hP
  refine pCRX6_56 C dX6_look_106 (W.lt 52 (by decide)) (sh_52 W) rfl p0 ?_
  refine j_aload_n C dX6_look_109 rfl rfl ?_
  refine gCRX6_56 (v := s0) C dX6_look_110 (W.lt 52 (by decide)) (sh_52 W) rfl (hz_e) ?_
  refine j_if_eq (tgt := 123) C dX6_look_113 (by decide) (fun c0 => ?_) (fun c0 => ?_)
  · have hP := hP.1 c0
    rw [if_pos c0] at hR
    refine j_iconst (v := 0) C dX6_look_123 (by decide) ?_
    exact RETi_u hR _ _ dX6_look_124
  · have hP := hP.2 c0
    rw [if_neg c0] at hR
    refine j_aload_n C dX6_look_116 rfl rfl ?_
    refine gCRX6_38 (v := (h 52 9)) C dX6_look_117 (W.lt 52 (by decide)) (sh_52 W) rfl (hz_i (by decide)) ?_
    refine j_goto (tgt := 124) C dX6_look_120 (by decide) ?_
    exact RETi_u hR _ _ dX6_look_124
def FX6_look_93  (h : ph_H) : Int32 × ph_H := if (h 52 8) = 0 then (FX6_look_106  0 h) else (FX6_look_106  1 h)
def PX6_look_93  (h : ph_H) : Prop := ((h 52 8) = 0 → (PX6_look_106  0 h)) ∧ (¬ (h 52 8) = 0 → (PX6_look_106  1 h))
set_option maxRecDepth 100000 in
set_option maxHeartbeats 4000000 in
theorem tX6_look_93 {X : fj_X} {Y : fj_Y} {l0 : Launch} {ad : Nat → Nat} {n : Nat} {S : ph_S} (W : WS 1 n S) (C : FC X Y l0 cX6_look 4 RX6 ({ frames := 6, cells := 0, slots := 0, locals := 141 } : Room) 0 0 (some .int)) (h : ph_H) (hP : PX6_look_93  h) (hR : RETi X Y ad n S cX6_look (FX6_look_93  h)) : FJ X Y ad n S h 93 [(0, .ref (ad 52))] [] := by
  unfold PX6_look_93 at hP
  unfold FX6_look_93 at hR
  refine j_aload_n C dX6_look_93 rfl rfl ?_
  refine j_aload_n C dX6_look_94 rfl rfl ?_
  refine gCRX6_45 (v := (h 52 8)) C dX6_look_95 (W.lt 52 (by decide)) (sh_52 W) rfl rfl ?_
  refine j_if_eq (tgt := 105) C dX6_look_98 (by decide) (fun c0 => ?_) (fun c0 => ?_)
  · have hP := hP.1 c0
    rw [if_pos c0] at hR
    refine j_iconst (v := 0) C dX6_look_105 (by decide) ?_
    exact j_vl (tX6_look_106 W C  0 h hP hR) ⟨rfl, trivial⟩
  · have hP := hP.2 c0
    rw [if_neg c0] at hR
    refine j_iconst (v := 1) C dX6_look_101 (by decide) ?_
    refine j_goto (tgt := 106) C dX6_look_102 (by decide) ?_
    exact j_vl (tX6_look_106 W C  1 h hP hR) ⟨rfl, trivial⟩
def FX6_look_17  : Nat → Int32 → Int32 → Int32 → ph_H → Int32 × ph_H
  | 0, _, _, _, h => (0, h)
  | q + 1, x1, x2, x3, h => if x1 < x3 then (FX6_look_93  h) else (if (h 52 8) = 0 then (FX6_look_40 (FX6_look_17  q) x1 x2 x3 (FX6_putAhead 0 1 (hs h 52 6 x3))) else (FX6_look_93  h))
def PX6_look_17  : Nat → Int32 → Int32 → Int32 → ph_H → Prop
  | 0, _, _, _, _ => False
  | q + 1, x1, x2, x3, h => (x1 < x3 → (PX6_look_93  h)) ∧ (¬ x1 < x3 → (((h 52 8) = 0 → ((PX6_putAhead 0 1 (hs h 52 6 x3)) ∧ (PX6_look_40 (PX6_look_17  q) x1 x2 x3 (FX6_putAhead 0 1 (hs h 52 6 x3))))) ∧ (¬ (h 52 8) = 0 → (PX6_look_93  h))))
set_option maxRecDepth 100000 in
set_option maxHeartbeats 4000000 in
theorem tX6_look_17 {X : fj_X} {Y : fj_Y} {l0 : Launch} {ad : Nat → Nat} {n : Nat} {S : ph_S} (W : WS 1 n S) (C : FC X Y l0 cX6_look 4 RX6 ({ frames := 6, cells := 0, slots := 0, locals := 141 } : Room) 0 0 (some .int)) : ∀ (q : Nat) (x1 : Int32) (x2 : Int32) (x3 : Int32) (h : ph_H), PX6_look_17  q x1 x2 x3 h → RETi X Y ad n S cX6_look (FX6_look_17  q x1 x2 x3 h) → FJ X Y ad n S h 17 [(0, .ref (ad 52)), (1, .int x1), (2, .int x2), (3, .int x3)] [] := by
  intro q
  induction q with
  | zero =>
    intro x1 x2 x3 h hP hR
    exact absurd hP id
  | succ q ih =>
    intro x1 x2 x3 h hP hR
    unfold PX6_look_17 at hP
    unfold FX6_look_17 at hR
    refine j_iload_n C dX6_look_17 rfl rfl ?_
    refine j_iload_n C dX6_look_18 rfl rfl ?_
    refine j_icmp_gt (tgt := 93) C dX6_look_19 (by decide) (fun c0 => ?_) (fun c0 => ?_)
    · have hP := hP.1 c0
      rw [if_pos c0] at hR
      exact j_vl (tX6_look_93 W C  h hP hR) ⟨rfl, trivial⟩
    · have hP := hP.2 c0
      rw [if_neg c0] at hR
      refine j_aload_n C dX6_look_22 rfl rfl ?_
      refine gCRX6_45 (v := (h 52 8)) C dX6_look_23 (W.lt 52 (by decide)) (sh_52 W) rfl rfl ?_
      refine j_if_ne (tgt := 93) C dX6_look_26 (by decide) (fun c1 => ?_) (fun c1 => ?_)
      · have hP := hP.2 c1
        rw [if_neg c1] at hR
        exact j_vl (tX6_look_93 W C  h hP hR) ⟨rfl, trivial⟩
      · have hP := hP.1 c1
        rw [if_pos c1] at hR
        refine j_aload_n C dX6_look_29 rfl rfl ?_
        refine j_iload_n C dX6_look_30 rfl rfl ?_
        refine pCRX6_34 C dX6_look_31 (W.lt 52 (by decide)) (sh_52 W) rfl ?_
        refine j_aload_n C dX6_look_34 rfl rfl ?_
        refine j_iconst (v := 0) C dX6_look_35 (by decide) ?_
        refine j_iconst (v := 1) C dX6_look_36 (by decide) ?_
        obtain ⟨p6, hP⟩ := hP
        refine j_callVv C (MX6_putAhead W 0 1 (hs h 52 6 x3) p6) dX6_look_37 (CKX6_putAhead (by decide)) ⟨rfl, rfl⟩ lk_RX6_48 in_X6_putAhead se_X6_putAhead (W.lt 52 (by decide)) (sh_52 W) rfl rfl (Nat.le_of_ble_eq_true rfl) ?_
        intro S' h' hq
        obtain ⟨e1, e2⟩ := hq
        rw [e1, e2]
        exact j_vl (tX6_look_40 W C (FX6_look_17  q) (PX6_look_17  q) (ih) x1 x2 x3 (FX6_putAhead 0 1 (hs h 52 6 x3)) hP hR) ⟨rfl, rfl, rfl, rfl, trivial⟩
def FX6_look_15  (x1 : Int32) (x2 : Int32) (h : ph_H) : Int32 × ph_H := FX6_look_17 2000 x1 x2 1 h
def PX6_look_15  (x1 : Int32) (x2 : Int32) (h : ph_H) : Prop := PX6_look_17 2000 x1 x2 1 h
set_option maxRecDepth 100000 in
set_option maxHeartbeats 4000000 in
theorem tX6_look_15 {X : fj_X} {Y : fj_Y} {l0 : Launch} {ad : Nat → Nat} {n : Nat} {S : ph_S} (W : WS 1 n S) (C : FC X Y l0 cX6_look 4 RX6 ({ frames := 6, cells := 0, slots := 0, locals := 141 } : Room) 0 0 (some .int)) (x1 : Int32) (x2 : Int32) (h : ph_H) (hP : PX6_look_15  x1 x2 h) (hR : RETi X Y ad n S cX6_look (FX6_look_15  x1 x2 h)) : FJ X Y ad n S h 15 [(0, .ref (ad 52)), (1, .int x1), (2, .int x2)] [] := by
  unfold PX6_look_15 at hP
  unfold FX6_look_15 at hR
  refine j_iconst (v := 1) C dX6_look_15 (by decide) ?_
  refine j_istore_n C dX6_look_16 rfl (by decide) rfl ?_
  exact j_vl (tX6_look_17 W C 2000 x1 x2 1 h hP hR) ⟨rfl, rfl, rfl, rfl, trivial⟩
def FX6_look (a0 : Int32) (a1 : Int32) (h : ph_H) : Int32 × ph_H := FX6_look_15  a0 a1 (FX6_goThrough 0 (hs (hs h 52 6 0) 52 9 1))
def PX6_look (a0 : Int32) (a1 : Int32) (h : ph_H) : Prop := (PX6_goThrough 0 (hs (hs h 52 6 0) 52 9 1)) ∧ (PX6_look_15  a0 a1 (FX6_goThrough 0 (hs (hs h 52 6 0) 52 9 1)))
set_option maxRecDepth 100000 in
set_option maxHeartbeats 4000000 in
theorem tX6_look {X : fj_X} {Y : fj_Y} {l0 : Launch} {ad : Nat → Nat} {n : Nat} {S : ph_S} {pr : Nat} (W : WS pr n S) (C : FC X Y l0 cX6_look 4 RX6 ({ frames := 6, cells := 0, slots := 0, locals := 141 } : Room) 0 0 (some .int)) (a0 : Int32) (a1 : Int32) (h : ph_H) (hP : PX6_look a0 a1 h) (hR : RETi X Y ad n (spr S 1) cX6_look (FX6_look a0 a1 h)) : FJ X Y ad n S h 0 [(0, .ref (ad 52)), (1, .int a0), (2, .int a1)] [] := by
  unfold PX6_look at hP
  unfold FX6_look at hR
  refine j_aload_n C dX6_look_0 rfl rfl ?_
  refine j_iconst (v := 0) C dX6_look_1 (by decide) ?_
  refine pCRX6_34 C dX6_look_2 (W.lt 52 (by decide)) (sh_52 W) rfl ?_
  refine j_aload_n C dX6_look_5 rfl rfl ?_
  refine j_iconst (v := 1) C dX6_look_6 (by decide) ?_
  refine pCRX6_38 C dX6_look_7 (W.lt 52 (by decide)) (sh_52 W) rfl ?_
  refine j_aload_n C dX6_look_10 rfl rfl ?_
  refine j_iconst (v := 0) C dX6_look_11 (by decide) ?_
  obtain ⟨p8, hP⟩ := hP
  refine j_callVv C (MX6_goThrough W 0 (hs (hs h 52 6 0) 52 9 1) p8) dX6_look_12 (CKX6_goThrough (by decide)) ⟨rfl, rfl⟩ lk_RX6_41 in_X6_goThrough se_X6_goThrough (W.lt 52 (by decide)) (sh_52 W) rfl rfl (Nat.le_of_ble_eq_true rfl) ?_
  intro S' h' hq
  obtain ⟨e1, e2⟩ := hq
  rw [e1, e2]
  have W := spr_W (p := 1) W
  exact j_vl (tX6_look_15 W C  a0 a1 (FX6_goThrough 0 (hs (hs h 52 6 0) 52 9 1)) hP hR) ⟨rfl, rfl, rfl, trivial⟩
theorem MX6_look {l0 : Launch} {Y : fj_Y} {ad : Nat → Nat} {n : Nat} {S : ph_S} {pr : Nat} (W : WS pr n S) (a0 : Int32) (a1 : Int32) (h : ph_H) (hP : PX6_look a0 a1 h) : MI l0 yX6_look cX6_look 4 (some .int) ({ frames := 6, cells := 0, slots := 0, locals := 141 } : Room) Y ad n S h [.ref (ad 52), .int a0, .int a1] (fun r S' h' => S' = spr S 1 ∧ h' = (FX6_look a0 a1 h).2 ∧ r = (FX6_look a0 a1 h).1) := met_i (by decide) (Nat.le_of_ble_eq_true rfl) (fun _ _ _ _ => rfl) (fun X C K => j_vl (tX6_look W C a0 a1 h hP (fun pc lv hd => K _ _ _ ⟨rfl, rfl, rfl⟩ pc lv hd)) ⟨rfl, rfl, rfl, trivial⟩)
