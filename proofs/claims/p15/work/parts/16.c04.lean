-- X10_record_s
def FX10_record_s_29  (h : ph_H) : ph_H := (hs (hs (hs h 35 13 (FX10_howOver_s h)) 35 15 (h 15 10)) 35 16 (h 15 12))
def PX10_record_s_29  (h : ph_H) : Prop := (PX10_howOver_s h) ∧ (True)
set_option maxRecDepth 100000 in
set_option maxHeartbeats 4000000 in
theorem tX10_record_s_29 {X : fj_X} {Y : fj_Y} {l0 : Launch} {ad : Nat → Nat} {n : Nat} {S : ph_S} {pr : Nat} (W : WS pr n S) (C : FC X Y l0 cX10_record 2 RX10 ({ frames := 6, cells := 0, slots := 0, locals := 148 } : Room) 0 0 none) (h : ph_H) (hP : PX10_record_s_29  h) (hR : RETv X Y ad n S cX10_record (FX10_record_s_29  h)) : FJ X Y ad n S h 29 [(0, .ref (ad 35)), (1, .ref (ad 15))] [] := by
  unfold PX10_record_s_29 at hP
  unfold FX10_record_s_29 at hR
  refine j_aload_n C dX10_record_29 rfl rfl ?_
  refine j_aload_n C dX10_record_30 rfl rfl ?_
  refine j_aload_n C dX10_record_31 rfl rfl ?_
  obtain ⟨p3, hP⟩ := hP
  refine j_callV C (MX10_howOver_s W h p3) dX10_record_32 (CKX10_howOver (by decide)) ⟨rfl, rfl⟩ lk_RX10_69 in_X10_howOver se_X10_howOver (W.lt 35 (by decide)) (sh_35 W) rfl rfl (Nat.le_of_ble_eq_true rfl) ?_
  intro r S' h' hq
  obtain ⟨e1, hh, e3⟩ := hq
  rw [e1, hh, e3]
  refine pCRX10_73 C dX10_record_35 (W.lt 35 (by decide)) (sh_35 W) rfl ?_
  refine j_aload_n C dX10_record_38 rfl rfl ?_
  refine j_aload_n C dX10_record_39 rfl rfl ?_
  refine gCRX10_76 (v := (h 15 10)) C dX10_record_40 (W.lt 15 (by decide)) (sh_15 W) rfl (hz_k (by decide)) ?_
  refine pCRX10_79 C dX10_record_43 (W.lt 35 (by decide)) (sh_35 W) rfl ?_
  refine j_aload_n C dX10_record_46 rfl rfl ?_
  refine j_aload_n C dX10_record_47 rfl rfl ?_
  refine gCRX10_82 (v := (h 15 12)) C dX10_record_48 (W.lt 15 (by decide)) (sh_15 W) rfl ((hz_k (by decide)).trans (hz_k (by decide))) ?_
  refine pCRX10_85 C dX10_record_51 (W.lt 35 (by decide)) (sh_35 W) rfl ?_
  exact hR _ _ dX10_record_54
def FX10_record_s_24  (h : ph_H) : ph_H := FX10_record_s_29  (FX10_goOn_s h)
def PX10_record_s_24  (h : ph_H) : Prop := (PX10_goOn_s h) ∧ (PX10_record_s_29  (FX10_goOn_s h))
set_option maxRecDepth 100000 in
set_option maxHeartbeats 4000000 in
theorem tX10_record_s_24 {X : fj_X} {Y : fj_Y} {l0 : Launch} {ad : Nat → Nat} {n : Nat} {S : ph_S} {pr : Nat} (W : WS pr n S) (C : FC X Y l0 cX10_record 2 RX10 ({ frames := 6, cells := 0, slots := 0, locals := 148 } : Room) 0 0 none) (h : ph_H) (hP : PX10_record_s_24  h) (hR : RETv X Y ad n S cX10_record (FX10_record_s_24  h)) : FJ X Y ad n S h 24 [(0, .ref (ad 35)), (1, .ref (ad 15))] [] := by
  unfold PX10_record_s_24 at hP
  unfold FX10_record_s_24 at hR
  refine j_aload_n C dX10_record_24 rfl rfl ?_
  refine j_aload_n C dX10_record_25 rfl rfl ?_
  obtain ⟨p2, hP⟩ := hP
  refine j_callVv C (MX10_goOn_s W h p2) dX10_record_26 (CKX10_goOn (by decide)) ⟨rfl, rfl⟩ lk_RX10_65 in_X10_goOn se_X10_goOn (W.lt 35 (by decide)) (sh_35 W) rfl rfl (Nat.le_of_ble_eq_true rfl) ?_
  intro S' h' hq
  obtain ⟨e1, e2⟩ := hq
  rw [e1, e2]
  exact j_vl (tX10_record_s_29 W C  (FX10_goOn_s h) hP hR) ⟨rfl, rfl, trivial⟩
def FX10_record_s (h : ph_H) : ph_H := FX10_record_s_24  (FX10_takeTurns_st (hs (hs (hs h 35 11 0) 35 12 0) 35 14 0))
def PX10_record_s (h : ph_H) : Prop := (PX10_takeTurns_st (hs (hs (hs h 35 11 0) 35 12 0) 35 14 0)) ∧ (PX10_record_s_24  (FX10_takeTurns_st (hs (hs (hs h 35 11 0) 35 12 0) 35 14 0)))
set_option maxRecDepth 100000 in
set_option maxHeartbeats 4000000 in
theorem tX10_record_s {X : fj_X} {Y : fj_Y} {l0 : Launch} {ad : Nat → Nat} {n : Nat} {S : ph_S} {pr : Nat} (W : WS pr n S) (C : FC X Y l0 cX10_record 2 RX10 ({ frames := 6, cells := 0, slots := 0, locals := 148 } : Room) 0 0 none) (h : ph_H) (hP : PX10_record_s h) (hR : RETv X Y ad n S cX10_record (FX10_record_s h)) : FJ X Y ad n S h 0 [(0, .ref (ad 35)), (1, .ref (ad 15))] [] := by
  unfold PX10_record_s at hP
  unfold FX10_record_s at hR
  refine j_aload_n C dX10_record_0 rfl rfl ?_
  refine j_iconst (v := 0) C dX10_record_1 (by decide) ?_
  refine pCRX10_45 C dX10_record_2 (W.lt 35 (by decide)) (sh_35 W) rfl ?_
  refine j_aload_n C dX10_record_5 rfl rfl ?_
  refine j_iconst (v := 0) C dX10_record_6 (by decide) ?_
  refine pCRX10_49 C dX10_record_7 (W.lt 35 (by decide)) (sh_35 W) rfl ?_
  refine j_aload_n C dX10_record_10 rfl rfl ?_
  refine j_iconst (v := 0) C dX10_record_11 (by decide) ?_
  refine pCRX10_52 C dX10_record_12 (W.lt 35 (by decide)) (sh_35 W) rfl ?_
  refine j_aload_n C dX10_record_15 rfl rfl ?_
  refine j_aload_n C dX10_record_16 rfl rfl ?_
  refine j_aload_n C dX10_record_17 rfl rfl ?_
  refine gCRX10_55 C dX10_record_18 (W.lt 15 (by decide)) (sh_15 W) rfl ?_
  obtain ⟨p13, hP⟩ := hP
  refine j_callVv C (MX10_takeTurns_st W (hs (hs (hs h 35 11 0) 35 12 0) 35 14 0) p13) dX10_record_21 (CKX10_takeTurns (by decide)) ⟨rfl, rfl⟩ lk_RX10_61 in_X10_takeTurns se_X10_takeTurns (W.lt 35 (by decide)) (sh_35 W) rfl rfl (Nat.le_of_ble_eq_true rfl) ?_
  intro S' h' hq
  obtain ⟨e1, e2⟩ := hq
  rw [e1, e2]
  exact j_vl (tX10_record_s_24 W C  (FX10_takeTurns_st (hs (hs (hs h 35 11 0) 35 12 0) 35 14 0)) hP hR) ⟨rfl, rfl, trivial⟩
theorem MX10_record_s {l0 : Launch} {Y : fj_Y} {ad : Nat → Nat} {n : Nat} {S : ph_S} {pr : Nat} (W : WS pr n S) (h : ph_H) (hP : PX10_record_s h) : MV l0 yX10_record cX10_record 2 ({ frames := 6, cells := 0, slots := 0, locals := 148 } : Room) Y ad n S h [.ref (ad 35), .ref (ad 15)] (fun S' h' => S' = S ∧ h' = FX10_record_s h) := met_v (by decide) (Nat.le_of_ble_eq_true rfl) (fun X C K => j_vl (tX10_record_s W C h hP (fun pc lv hd => K _ _ ⟨rfl, rfl⟩ pc lv hd)) ⟨rfl, rfl, trivial⟩)

-- J7_fill_53178_k16
def FJ7_fill_53178_k16_5  : Nat → Int32 → Int32 → Int32 → ph_H → ph_H
  | 0, _, _, _, h => h
  | q + 1, x1, x2, x3, h => if x3 ≤ x2 then (h) else (FJ7_fill_53178_k16_5  q x1 (x2 + 1) x3 (hs h 16 x2.toNatClampNeg x1))
def PJ7_fill_53178_k16_5  : Nat → Int32 → Int32 → Int32 → ph_H → Prop
  | 0, _, _, _, _ => False
  | q + 1, x1, x2, x3, h => (x3 ≤ x2 → (True)) ∧ (¬ x3 ≤ x2 → (vp_in x2 28 ∧ (PJ7_fill_53178_k16_5  q x1 (x2 + 1) x3 (hs h 16 x2.toNatClampNeg x1))))
set_option maxRecDepth 100000 in
set_option maxHeartbeats 4000000 in
theorem tJ7_fill_53178_k16_5 {X : fj_X} {Y : fj_Y} {l0 : Launch} {ad : Nat → Nat} {n : Nat} {S : ph_S} {pr : Nat} (W : WS pr n S) (C : FC X Y l0 cJ7_fill_53178 4 RJ7 ({ frames := 0, cells := 0, slots := 0, locals := 0 } : Room) 0 0 none) : ∀ (q : Nat) (x1 : Int32) (x2 : Int32) (x3 : Int32) (h : ph_H), PJ7_fill_53178_k16_5  q x1 x2 x3 h → RETv X Y ad n S cJ7_fill_53178 (FJ7_fill_53178_k16_5  q x1 x2 x3 h) → FJ X Y ad n S h 5 [(0, .ref (ad 16)), (1, .int x1), (2, .int x2), (3, .int x3)] [] := by
  intro q
  induction q with
  | zero =>
    intro x1 x2 x3 h hP hR
    exact absurd hP id
  | succ q ih =>
    intro x1 x2 x3 h hP hR
    unfold PJ7_fill_53178_k16_5 at hP
    unfold FJ7_fill_53178_k16_5 at hR
    refine j_iload_n C dJ7_fill_53178_5 rfl rfl ?_
    refine j_iload_n C dJ7_fill_53178_6 rfl rfl ?_
    refine j_icmp_ge (tgt := 20) C dJ7_fill_53178_7 (by decide) (fun c0 => ?_) (fun c0 => ?_)
    · have hP := hP.1 c0
      rw [if_pos c0] at hR
      exact hR _ _ dJ7_fill_53178_20
    · have hP := hP.2 c0
      rw [if_neg c0] at hR
      refine j_aload_n C dJ7_fill_53178_10 rfl rfl ?_
      refine j_iload_n C dJ7_fill_53178_11 rfl rfl ?_
      refine j_iload_n C dJ7_fill_53178_12 rfl rfl ?_
      obtain ⟨p3, hP⟩ := hP
      refine j_iast (k := 16) C dJ7_fill_53178_13 (W.lt 16 (by decide)) (sh_16 W) p3 ?_
      refine j_iinc (v := (x2 + 1)) C dJ7_fill_53178_14 rfl rfl (by decide) rfl ?_
      refine j_goto (tgt := 5) C dJ7_fill_53178_17 (by decide) ?_
      exact j_vl (ih x1 (x2 + 1) x3 (hs h 16 x2.toNatClampNeg x1) hP hR) ⟨rfl, rfl, rfl, rfl, trivial⟩
def FJ7_fill_53178_k16 (a1 : Int32) (h : ph_H) : ph_H := FJ7_fill_53178_k16_5 2000 a1 0 28 h
def PJ7_fill_53178_k16 (a1 : Int32) (h : ph_H) : Prop := PJ7_fill_53178_k16_5 2000 a1 0 28 h
set_option maxRecDepth 100000 in
set_option maxHeartbeats 4000000 in
theorem tJ7_fill_53178_k16 {X : fj_X} {Y : fj_Y} {l0 : Launch} {ad : Nat → Nat} {n : Nat} {S : ph_S} {pr : Nat} (W : WS pr n S) (C : FC X Y l0 cJ7_fill_53178 4 RJ7 ({ frames := 0, cells := 0, slots := 0, locals := 0 } : Room) 0 0 none) (a1 : Int32) (h : ph_H) (hP : PJ7_fill_53178_k16 a1 h) (hR : RETv X Y ad n S cJ7_fill_53178 (FJ7_fill_53178_k16 a1 h)) : FJ X Y ad n S h 0 [(0, .ref (ad 16)), (1, .int a1)] [] := by
  unfold PJ7_fill_53178_k16 at hP
  unfold FJ7_fill_53178_k16 at hR
  refine j_iconst (v := 0) C dJ7_fill_53178_0 (by decide) ?_
  refine j_istore_n C dJ7_fill_53178_1 rfl (by decide) rfl ?_
  refine j_aload_n C dJ7_fill_53178_2 rfl rfl ?_
  refine j_alen (v := 28) (ty := .int) C dJ7_fill_53178_3 (W.lt 16 (by decide)) (sh_16 W) rfl (by decide) ?_
  refine j_istore_n C dJ7_fill_53178_4 rfl (by decide) rfl ?_
  exact j_vl (tJ7_fill_53178_k16_5 W C 2000 a1 0 28 h hP hR) ⟨rfl, rfl, rfl, rfl, trivial⟩
theorem MJ7_fill_53178_k16 {l0 : Launch} {Y : fj_Y} {ad : Nat → Nat} {n : Nat} {S : ph_S} {pr : Nat} (W : WS pr n S) (a1 : Int32) (h : ph_H) (hP : PJ7_fill_53178_k16 a1 h) : MV l0 yJ7_fill_53178 cJ7_fill_53178 4 ({ frames := 0, cells := 0, slots := 0, locals := 0 } : Room) Y ad n S h [.ref (ad 16), .int a1] (fun S' h' => S' = S ∧ h' = FJ7_fill_53178_k16 a1 h) := met_v (by decide) (Nat.le_of_ble_eq_true rfl) (fun X C K => j_vl (tJ7_fill_53178_k16 W C a1 h hP (fun pc lv hd => K _ _ ⟨rfl, rfl⟩ pc lv hd)) ⟨rfl, rfl, trivial⟩)

-- J7_fill_53178_k17
def FJ7_fill_53178_k17_5  : Nat → Int32 → Int32 → Int32 → ph_H → ph_H
  | 0, _, _, _, h => h
  | q + 1, x1, x2, x3, h => if x3 ≤ x2 then (h) else (FJ7_fill_53178_k17_5  q x1 (x2 + 1) x3 (hs h 17 x2.toNatClampNeg x1))
def PJ7_fill_53178_k17_5  : Nat → Int32 → Int32 → Int32 → ph_H → Prop
  | 0, _, _, _, _ => False
  | q + 1, x1, x2, x3, h => (x3 ≤ x2 → (True)) ∧ (¬ x3 ≤ x2 → (vp_in x2 28 ∧ (PJ7_fill_53178_k17_5  q x1 (x2 + 1) x3 (hs h 17 x2.toNatClampNeg x1))))
set_option maxRecDepth 100000 in
set_option maxHeartbeats 4000000 in
theorem tJ7_fill_53178_k17_5 {X : fj_X} {Y : fj_Y} {l0 : Launch} {ad : Nat → Nat} {n : Nat} {S : ph_S} {pr : Nat} (W : WS pr n S) (C : FC X Y l0 cJ7_fill_53178 4 RJ7 ({ frames := 0, cells := 0, slots := 0, locals := 0 } : Room) 0 0 none) : ∀ (q : Nat) (x1 : Int32) (x2 : Int32) (x3 : Int32) (h : ph_H), PJ7_fill_53178_k17_5  q x1 x2 x3 h → RETv X Y ad n S cJ7_fill_53178 (FJ7_fill_53178_k17_5  q x1 x2 x3 h) → FJ X Y ad n S h 5 [(0, .ref (ad 17)), (1, .int x1), (2, .int x2), (3, .int x3)] [] := by
  intro q
  induction q with
  | zero =>
    intro x1 x2 x3 h hP hR
    exact absurd hP id
  | succ q ih =>
    intro x1 x2 x3 h hP hR
    unfold PJ7_fill_53178_k17_5 at hP
    unfold FJ7_fill_53178_k17_5 at hR
    refine j_iload_n C dJ7_fill_53178_5 rfl rfl ?_
    refine j_iload_n C dJ7_fill_53178_6 rfl rfl ?_
    refine j_icmp_ge (tgt := 20) C dJ7_fill_53178_7 (by decide) (fun c0 => ?_) (fun c0 => ?_)
    · have hP := hP.1 c0
      rw [if_pos c0] at hR
      exact hR _ _ dJ7_fill_53178_20
    · have hP := hP.2 c0
      rw [if_neg c0] at hR
      refine j_aload_n C dJ7_fill_53178_10 rfl rfl ?_
      refine j_iload_n C dJ7_fill_53178_11 rfl rfl ?_
      refine j_iload_n C dJ7_fill_53178_12 rfl rfl ?_
      obtain ⟨p3, hP⟩ := hP
      refine j_iast (k := 17) C dJ7_fill_53178_13 (W.lt 17 (by decide)) (sh_17 W) p3 ?_
      refine j_iinc (v := (x2 + 1)) C dJ7_fill_53178_14 rfl rfl (by decide) rfl ?_
      refine j_goto (tgt := 5) C dJ7_fill_53178_17 (by decide) ?_
      exact j_vl (ih x1 (x2 + 1) x3 (hs h 17 x2.toNatClampNeg x1) hP hR) ⟨rfl, rfl, rfl, rfl, trivial⟩
def FJ7_fill_53178_k17 (a1 : Int32) (h : ph_H) : ph_H := FJ7_fill_53178_k17_5 2000 a1 0 28 h
def PJ7_fill_53178_k17 (a1 : Int32) (h : ph_H) : Prop := PJ7_fill_53178_k17_5 2000 a1 0 28 h
set_option maxRecDepth 100000 in
set_option maxHeartbeats 4000000 in
theorem tJ7_fill_53178_k17 {X : fj_X} {Y : fj_Y} {l0 : Launch} {ad : Nat → Nat} {n : Nat} {S : ph_S} {pr : Nat} (W : WS pr n S) (C : FC X Y l0 cJ7_fill_53178 4 RJ7 ({ frames := 0, cells := 0, slots := 0, locals := 0 } : Room) 0 0 none) (a1 : Int32) (h : ph_H) (hP : PJ7_fill_53178_k17 a1 h) (hR : RETv X Y ad n S cJ7_fill_53178 (FJ7_fill_53178_k17 a1 h)) : FJ X Y ad n S h 0 [(0, .ref (ad 17)), (1, .int a1)] [] := by
  unfold PJ7_fill_53178_k17 at hP
  unfold FJ7_fill_53178_k17 at hR
  refine j_iconst (v := 0) C dJ7_fill_53178_0 (by decide) ?_
  refine j_istore_n C dJ7_fill_53178_1 rfl (by decide) rfl ?_
  refine j_aload_n C dJ7_fill_53178_2 rfl rfl ?_
  refine j_alen (v := 28) (ty := .int) C dJ7_fill_53178_3 (W.lt 17 (by decide)) (sh_17 W) rfl (by decide) ?_
  refine j_istore_n C dJ7_fill_53178_4 rfl (by decide) rfl ?_
  exact j_vl (tJ7_fill_53178_k17_5 W C 2000 a1 0 28 h hP hR) ⟨rfl, rfl, rfl, rfl, trivial⟩
theorem MJ7_fill_53178_k17 {l0 : Launch} {Y : fj_Y} {ad : Nat → Nat} {n : Nat} {S : ph_S} {pr : Nat} (W : WS pr n S) (a1 : Int32) (h : ph_H) (hP : PJ7_fill_53178_k17 a1 h) : MV l0 yJ7_fill_53178 cJ7_fill_53178 4 ({ frames := 0, cells := 0, slots := 0, locals := 0 } : Room) Y ad n S h [.ref (ad 17), .int a1] (fun S' h' => S' = S ∧ h' = FJ7_fill_53178_k17 a1 h) := met_v (by decide) (Nat.le_of_ble_eq_true rfl) (fun X C K => j_vl (tJ7_fill_53178_k17 W C a1 h hP (fun pc lv hd => K _ _ ⟨rfl, rfl⟩ pc lv hd)) ⟨rfl, rfl, trivial⟩)

-- J7_fill_53178_k18
def FJ7_fill_53178_k18_5  : Nat → Int32 → Int32 → Int32 → ph_H → ph_H
  | 0, _, _, _, h => h
  | q + 1, x1, x2, x3, h => if x3 ≤ x2 then (h) else (FJ7_fill_53178_k18_5  q x1 (x2 + 1) x3 (hs h 18 x2.toNatClampNeg x1))
def PJ7_fill_53178_k18_5  : Nat → Int32 → Int32 → Int32 → ph_H → Prop
  | 0, _, _, _, _ => False
  | q + 1, x1, x2, x3, h => (x3 ≤ x2 → (True)) ∧ (¬ x3 ≤ x2 → (vp_in x2 4 ∧ (PJ7_fill_53178_k18_5  q x1 (x2 + 1) x3 (hs h 18 x2.toNatClampNeg x1))))
set_option maxRecDepth 100000 in
set_option maxHeartbeats 4000000 in
theorem tJ7_fill_53178_k18_5 {X : fj_X} {Y : fj_Y} {l0 : Launch} {ad : Nat → Nat} {n : Nat} {S : ph_S} {pr : Nat} (W : WS pr n S) (C : FC X Y l0 cJ7_fill_53178 4 RJ7 ({ frames := 0, cells := 0, slots := 0, locals := 0 } : Room) 0 0 none) : ∀ (q : Nat) (x1 : Int32) (x2 : Int32) (x3 : Int32) (h : ph_H), PJ7_fill_53178_k18_5  q x1 x2 x3 h → RETv X Y ad n S cJ7_fill_53178 (FJ7_fill_53178_k18_5  q x1 x2 x3 h) → FJ X Y ad n S h 5 [(0, .ref (ad 18)), (1, .int x1), (2, .int x2), (3, .int x3)] [] := by
  intro q
  induction q with
  | zero =>
    intro x1 x2 x3 h hP hR
    exact absurd hP id
  | succ q ih =>
    intro x1 x2 x3 h hP hR
    unfold PJ7_fill_53178_k18_5 at hP
    unfold FJ7_fill_53178_k18_5 at hR
    refine j_iload_n C dJ7_fill_53178_5 rfl rfl ?_
    refine j_iload_n C dJ7_fill_53178_6 rfl rfl ?_
    refine j_icmp_ge (tgt := 20) C dJ7_fill_53178_7 (by decide) (fun c0 => ?_) (fun c0 => ?_)
    · have hP := hP.1 c0
      rw [if_pos c0] at hR
      exact hR _ _ dJ7_fill_53178_20
    · have hP := hP.2 c0
      rw [if_neg c0] at hR
      refine j_aload_n C dJ7_fill_53178_10 rfl rfl ?_
      refine j_iload_n C dJ7_fill_53178_11 rfl rfl ?_
      refine j_iload_n C dJ7_fill_53178_12 rfl rfl ?_
      obtain ⟨p3, hP⟩ := hP
      refine j_iast (k := 18) C dJ7_fill_53178_13 (W.lt 18 (by decide)) (sh_18 W) p3 ?_
      refine j_iinc (v := (x2 + 1)) C dJ7_fill_53178_14 rfl rfl (by decide) rfl ?_
      refine j_goto (tgt := 5) C dJ7_fill_53178_17 (by decide) ?_
      exact j_vl (ih x1 (x2 + 1) x3 (hs h 18 x2.toNatClampNeg x1) hP hR) ⟨rfl, rfl, rfl, rfl, trivial⟩
def FJ7_fill_53178_k18 (a1 : Int32) (h : ph_H) : ph_H := FJ7_fill_53178_k18_5 2000 a1 0 4 h
def PJ7_fill_53178_k18 (a1 : Int32) (h : ph_H) : Prop := PJ7_fill_53178_k18_5 2000 a1 0 4 h
set_option maxRecDepth 100000 in
set_option maxHeartbeats 4000000 in
theorem tJ7_fill_53178_k18 {X : fj_X} {Y : fj_Y} {l0 : Launch} {ad : Nat → Nat} {n : Nat} {S : ph_S} {pr : Nat} (W : WS pr n S) (C : FC X Y l0 cJ7_fill_53178 4 RJ7 ({ frames := 0, cells := 0, slots := 0, locals := 0 } : Room) 0 0 none) (a1 : Int32) (h : ph_H) (hP : PJ7_fill_53178_k18 a1 h) (hR : RETv X Y ad n S cJ7_fill_53178 (FJ7_fill_53178_k18 a1 h)) : FJ X Y ad n S h 0 [(0, .ref (ad 18)), (1, .int a1)] [] := by
  unfold PJ7_fill_53178_k18 at hP
  unfold FJ7_fill_53178_k18 at hR
  refine j_iconst (v := 0) C dJ7_fill_53178_0 (by decide) ?_
  refine j_istore_n C dJ7_fill_53178_1 rfl (by decide) rfl ?_
  refine j_aload_n C dJ7_fill_53178_2 rfl rfl ?_
  refine j_alen (v := 4) (ty := .int) C dJ7_fill_53178_3 (W.lt 18 (by decide)) (sh_18 W) rfl (by decide) ?_
  refine j_istore_n C dJ7_fill_53178_4 rfl (by decide) rfl ?_
  exact j_vl (tJ7_fill_53178_k18_5 W C 2000 a1 0 4 h hP hR) ⟨rfl, rfl, rfl, rfl, trivial⟩
theorem MJ7_fill_53178_k18 {l0 : Launch} {Y : fj_Y} {ad : Nat → Nat} {n : Nat} {S : ph_S} {pr : Nat} (W : WS pr n S) (a1 : Int32) (h : ph_H) (hP : PJ7_fill_53178_k18 a1 h) : MV l0 yJ7_fill_53178 cJ7_fill_53178 4 ({ frames := 0, cells := 0, slots := 0, locals := 0 } : Room) Y ad n S h [.ref (ad 18), .int a1] (fun S' h' => S' = S ∧ h' = FJ7_fill_53178_k18 a1 h) := met_v (by decide) (Nat.le_of_ble_eq_true rfl) (fun X C K => j_vl (tJ7_fill_53178_k18 W C a1 h hP (fun pc lv hd => K _ _ ⟨rfl, rfl⟩ pc lv hd)) ⟨rfl, rfl, trivial⟩)

-- J7_fill_53178_k19
def FJ7_fill_53178_k19_5  : Nat → Int32 → Int32 → Int32 → ph_H → ph_H
  | 0, _, _, _, h => h
  | q + 1, x1, x2, x3, h => if x3 ≤ x2 then (h) else (FJ7_fill_53178_k19_5  q x1 (x2 + 1) x3 (hs h 19 x2.toNatClampNeg x1))
def PJ7_fill_53178_k19_5  : Nat → Int32 → Int32 → Int32 → ph_H → Prop
  | 0, _, _, _, _ => False
  | q + 1, x1, x2, x3, h => (x3 ≤ x2 → (True)) ∧ (¬ x3 ≤ x2 → (vp_in x2 4 ∧ (PJ7_fill_53178_k19_5  q x1 (x2 + 1) x3 (hs h 19 x2.toNatClampNeg x1))))
set_option maxRecDepth 100000 in
set_option maxHeartbeats 4000000 in
theorem tJ7_fill_53178_k19_5 {X : fj_X} {Y : fj_Y} {l0 : Launch} {ad : Nat → Nat} {n : Nat} {S : ph_S} {pr : Nat} (W : WS pr n S) (C : FC X Y l0 cJ7_fill_53178 4 RJ7 ({ frames := 0, cells := 0, slots := 0, locals := 0 } : Room) 0 0 none) : ∀ (q : Nat) (x1 : Int32) (x2 : Int32) (x3 : Int32) (h : ph_H), PJ7_fill_53178_k19_5  q x1 x2 x3 h → RETv X Y ad n S cJ7_fill_53178 (FJ7_fill_53178_k19_5  q x1 x2 x3 h) → FJ X Y ad n S h 5 [(0, .ref (ad 19)), (1, .int x1), (2, .int x2), (3, .int x3)] [] := by
  intro q
  induction q with
  | zero =>
    intro x1 x2 x3 h hP hR
    exact absurd hP id
  | succ q ih =>
    intro x1 x2 x3 h hP hR
    unfold PJ7_fill_53178_k19_5 at hP
    unfold FJ7_fill_53178_k19_5 at hR
    refine j_iload_n C dJ7_fill_53178_5 rfl rfl ?_
    refine j_iload_n C dJ7_fill_53178_6 rfl rfl ?_
    refine j_icmp_ge (tgt := 20) C dJ7_fill_53178_7 (by decide) (fun c0 => ?_) (fun c0 => ?_)
    · have hP := hP.1 c0
      rw [if_pos c0] at hR
      exact hR _ _ dJ7_fill_53178_20
    · have hP := hP.2 c0
      rw [if_neg c0] at hR
      refine j_aload_n C dJ7_fill_53178_10 rfl rfl ?_
      refine j_iload_n C dJ7_fill_53178_11 rfl rfl ?_
      refine j_iload_n C dJ7_fill_53178_12 rfl rfl ?_
      obtain ⟨p3, hP⟩ := hP
      refine j_iast (k := 19) C dJ7_fill_53178_13 (W.lt 19 (by decide)) (sh_19 W) p3 ?_
      refine j_iinc (v := (x2 + 1)) C dJ7_fill_53178_14 rfl rfl (by decide) rfl ?_
      refine j_goto (tgt := 5) C dJ7_fill_53178_17 (by decide) ?_
      exact j_vl (ih x1 (x2 + 1) x3 (hs h 19 x2.toNatClampNeg x1) hP hR) ⟨rfl, rfl, rfl, rfl, trivial⟩
def FJ7_fill_53178_k19 (a1 : Int32) (h : ph_H) : ph_H := FJ7_fill_53178_k19_5 2000 a1 0 4 h
def PJ7_fill_53178_k19 (a1 : Int32) (h : ph_H) : Prop := PJ7_fill_53178_k19_5 2000 a1 0 4 h
set_option maxRecDepth 100000 in
set_option maxHeartbeats 4000000 in
theorem tJ7_fill_53178_k19 {X : fj_X} {Y : fj_Y} {l0 : Launch} {ad : Nat → Nat} {n : Nat} {S : ph_S} {pr : Nat} (W : WS pr n S) (C : FC X Y l0 cJ7_fill_53178 4 RJ7 ({ frames := 0, cells := 0, slots := 0, locals := 0 } : Room) 0 0 none) (a1 : Int32) (h : ph_H) (hP : PJ7_fill_53178_k19 a1 h) (hR : RETv X Y ad n S cJ7_fill_53178 (FJ7_fill_53178_k19 a1 h)) : FJ X Y ad n S h 0 [(0, .ref (ad 19)), (1, .int a1)] [] := by
  unfold PJ7_fill_53178_k19 at hP
  unfold FJ7_fill_53178_k19 at hR
  refine j_iconst (v := 0) C dJ7_fill_53178_0 (by decide) ?_
  refine j_istore_n C dJ7_fill_53178_1 rfl (by decide) rfl ?_
  refine j_aload_n C dJ7_fill_53178_2 rfl rfl ?_
  refine j_alen (v := 4) (ty := .int) C dJ7_fill_53178_3 (W.lt 19 (by decide)) (sh_19 W) rfl (by decide) ?_
  refine j_istore_n C dJ7_fill_53178_4 rfl (by decide) rfl ?_
  exact j_vl (tJ7_fill_53178_k19_5 W C 2000 a1 0 4 h hP hR) ⟨rfl, rfl, rfl, rfl, trivial⟩
theorem MJ7_fill_53178_k19 {l0 : Launch} {Y : fj_Y} {ad : Nat → Nat} {n : Nat} {S : ph_S} {pr : Nat} (W : WS pr n S) (a1 : Int32) (h : ph_H) (hP : PJ7_fill_53178_k19 a1 h) : MV l0 yJ7_fill_53178 cJ7_fill_53178 4 ({ frames := 0, cells := 0, slots := 0, locals := 0 } : Room) Y ad n S h [.ref (ad 19), .int a1] (fun S' h' => S' = S ∧ h' = FJ7_fill_53178_k19 a1 h) := met_v (by decide) (Nat.le_of_ble_eq_true rfl) (fun X C K => j_vl (tJ7_fill_53178_k19 W C a1 h hP (fun pc lv hd => K _ _ ⟨rfl, rfl⟩ pc lv hd)) ⟨rfl, rfl, trivial⟩)

-- X3_begin_st
def FX3_begin_st_52  (x2 : Int32) (h : ph_H) : ph_H := (hs (hs (hs (hs h 19 (0 : Int32).toNatClampNeg 1) 15 10 0) 15 11 x2) 15 12 0)
def PX3_begin_st_52  (x2 : Int32) (h : ph_H) : Prop := vp_in 0 4 ∧ (True)
set_option maxRecDepth 100000 in
set_option maxHeartbeats 4000000 in
theorem tX3_begin_st_52 {X : fj_X} {Y : fj_Y} {l0 : Launch} {ad : Nat → Nat} {n : Nat} {S : ph_S} {pr : Nat} (W : WS pr n S) (C : FC X Y l0 cX3_begin 3 RX3 ({ frames := 1, cells := 0, slots := 0, locals := 26 } : Room) 0 0 none) (x2 : Int32) (h : ph_H) (hP : PX3_begin_st_52  x2 h) (hR : RETv X Y ad n S cX3_begin (FX3_begin_st_52  x2 h)) : FJ X Y ad n S h 52 [(0, .ref (ad 15)), (2, .int x2)] [] := by
  unfold PX3_begin_st_52 at hP
  unfold FX3_begin_st_52 at hR
  refine j_aload_n C dX3_begin_52 rfl rfl ?_
  refine gCRX3_21 C dX3_begin_53 (W.lt 15 (by decide)) (sh_15 W) rfl ?_
  refine j_iconst (v := 0) C dX3_begin_56 (by decide) ?_
  refine j_iconst (v := 1) C dX3_begin_57 (by decide) ?_
  obtain ⟨p4, hP⟩ := hP
  refine j_iast (k := 19) C dX3_begin_58 (W.lt 19 (by decide)) (sh_19 W) p4 ?_
  refine j_aload_n C dX3_begin_59 rfl rfl ?_
  refine j_iconst (v := 0) C dX3_begin_60 (by decide) ?_
  refine pCRX3_60 C dX3_begin_61 (W.lt 15 (by decide)) (sh_15 W) rfl ?_
  refine j_aload_n C dX3_begin_64 rfl rfl ?_
  refine j_iload_n C dX3_begin_65 rfl rfl ?_
  refine pCRX3_64 C dX3_begin_66 (W.lt 15 (by decide)) (sh_15 W) rfl ?_
  refine j_aload_n C dX3_begin_69 rfl rfl ?_
  refine j_iconst (v := 0) C dX3_begin_70 (by decide) ?_
  refine pCRX3_67 C dX3_begin_71 (W.lt 15 (by decide)) (sh_15 W) rfl ?_
  exact hR _ _ dX3_begin_74
def FX3_begin_st_44  (x2 : Int32) (h : ph_H) : ph_H := FX3_begin_st_52  x2 (FJ7_fill_53178_k19 0 h)
def PX3_begin_st_44  (x2 : Int32) (h : ph_H) : Prop := (PJ7_fill_53178_k19 0 h) ∧ (PX3_begin_st_52  x2 (FJ7_fill_53178_k19 0 h))
set_option maxRecDepth 100000 in
set_option maxHeartbeats 4000000 in
theorem tX3_begin_st_44 {X : fj_X} {Y : fj_Y} {l0 : Launch} {ad : Nat → Nat} {n : Nat} {S : ph_S} {pr : Nat} (W : WS pr n S) (C : FC X Y l0 cX3_begin 3 RX3 ({ frames := 1, cells := 0, slots := 0, locals := 26 } : Room) 0 0 none) (x2 : Int32) (h : ph_H) (hP : PX3_begin_st_44  x2 h) (hR : RETv X Y ad n S cX3_begin (FX3_begin_st_44  x2 h)) : FJ X Y ad n S h 44 [(0, .ref (ad 15)), (2, .int x2)] [] := by
  unfold PX3_begin_st_44 at hP
  unfold FX3_begin_st_44 at hR
  refine j_aload_n C dX3_begin_44 rfl rfl ?_
  refine gCRX3_21 C dX3_begin_45 (W.lt 15 (by decide)) (sh_15 W) rfl ?_
  refine j_iconst (v := 0) C dX3_begin_48 (by decide) ?_
  obtain ⟨p3, hP⟩ := hP
  refine j_callSv C (MJ7_fill_53178_k19 W 0 h p3) dX3_begin_49 (CKJ7_fill_53178 (by decide)) ⟨rfl, rfl⟩ lk_RX3_43 st_J7_fill_53178 rfl (Nat.le_of_ble_eq_true rfl) ?_
  intro S' h' hq
  obtain ⟨e1, e2⟩ := hq
  rw [e1, e2]
  exact j_vl (tX3_begin_st_52 W C  x2 (FJ7_fill_53178_k19 0 h) hP hR) ⟨rfl, rfl, trivial⟩
def FX3_begin_st_21  (x2 : Int32) (h : ph_H) : ph_H := FX3_begin_st_44  x2 (FJ7_fill_53178_k18 0 (hc h 11 17 0 0 12))
def PX3_begin_st_21  (x2 : Int32) (h : ph_H) : Prop := cpok 0 0 12 12 28 ∧ ((PJ7_fill_53178_k18 0 (hc h 11 17 0 0 12)) ∧ (PX3_begin_st_44  x2 (FJ7_fill_53178_k18 0 (hc h 11 17 0 0 12))))
set_option maxRecDepth 100000 in
set_option maxHeartbeats 4000000 in
theorem tX3_begin_st_21 {X : fj_X} {Y : fj_Y} {l0 : Launch} {ad : Nat → Nat} {n : Nat} {S : ph_S} {pr : Nat} (W : WS pr n S) (C : FC X Y l0 cX3_begin 3 RX3 ({ frames := 1, cells := 0, slots := 0, locals := 26 } : Room) 0 0 none) (x2 : Int32) (h : ph_H) (hP : PX3_begin_st_21  x2 h) (hR : RETv X Y ad n S cX3_begin (FX3_begin_st_21  x2 h)) : FJ X Y ad n S h 21 [(0, .ref (ad 15)), (1, .ref (ad 8)), (2, .int x2)] [] := by
  unfold PX3_begin_st_21 at hP
  unfold FX3_begin_st_21 at hR
  refine j_aload_n C dX3_begin_21 rfl rfl ?_
  refine gCRX3_49 C dX3_begin_22 (W.lt 8 (by decide)) (sh_8 W) rfl ?_
  refine j_iconst (v := 0) C dX3_begin_25 (by decide) ?_
  refine j_aload_n C dX3_begin_26 rfl rfl ?_
  refine gCRX3_15 C dX3_begin_27 (W.lt 15 (by decide)) (sh_15 W) rfl ?_
  refine j_iconst (v := 0) C dX3_begin_30 (by decide) ?_
  refine j_bipush (v := 12) C dX3_begin_31 (by decide) ?_
  obtain ⟨p7, hP⟩ := hP
  refine j_copy (k0 := 11) (k1 := 17) C dX3_begin_33 lk_RX3_54 ac_n ac_s ac_i (W.lt 11 (by decide)) (sh_11 W) (W.lt 17 (by decide)) (sh_17 W) p7 (by decide) (Nat.le_of_ble_eq_true rfl) ?_
  refine j_aload_n C dX3_begin_36 rfl rfl ?_
  refine gCRX3_18 C dX3_begin_37 (W.lt 15 (by decide)) (sh_15 W) rfl ?_
  refine j_iconst (v := 0) C dX3_begin_40 (by decide) ?_
  obtain ⟨p12, hP⟩ := hP
  refine j_callSv C (MJ7_fill_53178_k18 W 0 (hc h 11 17 0 0 12) p12) dX3_begin_41 (CKJ7_fill_53178 (by decide)) ⟨rfl, rfl⟩ lk_RX3_43 st_J7_fill_53178 rfl (Nat.le_of_ble_eq_true rfl) ?_
  intro S' h' hq
  obtain ⟨e1, e2⟩ := hq
  rw [e1, e2]
  exact j_vl (tX3_begin_st_44 W C  x2 (FJ7_fill_53178_k18 0 (hc h 11 17 0 0 12)) hP hR) ⟨rfl, rfl, trivial⟩
def FX3_begin_st_13  (x2 : Int32) (h : ph_H) : ph_H := FX3_begin_st_21  x2 (FJ7_fill_53178_k17 0 h)
def PX3_begin_st_13  (x2 : Int32) (h : ph_H) : Prop := (PJ7_fill_53178_k17 0 h) ∧ (PX3_begin_st_21  x2 (FJ7_fill_53178_k17 0 h))
set_option maxRecDepth 100000 in
set_option maxHeartbeats 4000000 in
theorem tX3_begin_st_13 {X : fj_X} {Y : fj_Y} {l0 : Launch} {ad : Nat → Nat} {n : Nat} {S : ph_S} {pr : Nat} (W : WS pr n S) (C : FC X Y l0 cX3_begin 3 RX3 ({ frames := 1, cells := 0, slots := 0, locals := 26 } : Room) 0 0 none) (x2 : Int32) (h : ph_H) (hP : PX3_begin_st_13  x2 h) (hR : RETv X Y ad n S cX3_begin (FX3_begin_st_13  x2 h)) : FJ X Y ad n S h 13 [(0, .ref (ad 15)), (1, .ref (ad 8)), (2, .int x2)] [] := by
  unfold PX3_begin_st_13 at hP
  unfold FX3_begin_st_13 at hR
  refine j_aload_n C dX3_begin_13 rfl rfl ?_
  refine gCRX3_15 C dX3_begin_14 (W.lt 15 (by decide)) (sh_15 W) rfl ?_
  refine j_iconst (v := 0) C dX3_begin_17 (by decide) ?_
  obtain ⟨p3, hP⟩ := hP
  refine j_callSv C (MJ7_fill_53178_k17 W 0 h p3) dX3_begin_18 (CKJ7_fill_53178 (by decide)) ⟨rfl, rfl⟩ lk_RX3_43 st_J7_fill_53178 rfl (Nat.le_of_ble_eq_true rfl) ?_
  intro S' h' hq
  obtain ⟨e1, e2⟩ := hq
  rw [e1, e2]
  exact j_vl (tX3_begin_st_21 W C  x2 (FJ7_fill_53178_k17 0 h) hP hR) ⟨rfl, rfl, rfl, trivial⟩
def FX3_begin_st (a1 : Int32) (h : ph_H) : ph_H := FX3_begin_st_13  a1 (FJ7_fill_53178_k16 0 h)
def PX3_begin_st (a1 : Int32) (h : ph_H) : Prop := (PJ7_fill_53178_k16 0 h) ∧ (PX3_begin_st_13  a1 (FJ7_fill_53178_k16 0 h))
set_option maxRecDepth 100000 in
set_option maxHeartbeats 4000000 in
theorem tX3_begin_st {X : fj_X} {Y : fj_Y} {l0 : Launch} {ad : Nat → Nat} {n : Nat} {S : ph_S} {pr : Nat} (W : WS pr n S) (C : FC X Y l0 cX3_begin 3 RX3 ({ frames := 1, cells := 0, slots := 0, locals := 26 } : Room) 0 0 none) (a1 : Int32) (h : ph_H) (hP : PX3_begin_st a1 h) (hR : RETv X Y ad n S cX3_begin (FX3_begin_st a1 h)) : FJ X Y ad n S h 0 [(0, .ref (ad 15)), (1, .ref (ad 8)), (2, .int a1)] [] := by
  unfold PX3_begin_st at hP
  unfold FX3_begin_st at hR
  refine j_aload_n C dX3_begin_0 rfl rfl ?_
  refine j_aload_n C dX3_begin_1 rfl rfl ?_
  refine pP_s W C dX3_begin_2 ?_
  refine j_aload_n C dX3_begin_5 rfl rfl ?_
  refine gCRX3_9 C dX3_begin_6 (W.lt 15 (by decide)) (sh_15 W) rfl ?_
  refine j_iconst (v := 0) C dX3_begin_9 (by decide) ?_
  obtain ⟨p6, hP⟩ := hP
  refine j_callSv C (MJ7_fill_53178_k16 W 0 h p6) dX3_begin_10 (CKJ7_fill_53178 (by decide)) ⟨rfl, rfl⟩ lk_RX3_43 st_J7_fill_53178 rfl (Nat.le_of_ble_eq_true rfl) ?_
  intro S' h' hq
  obtain ⟨e1, e2⟩ := hq
  rw [e1, e2]
  exact j_vl (tX3_begin_st_13 W C  a1 (FJ7_fill_53178_k16 0 h) hP hR) ⟨rfl, rfl, rfl, trivial⟩
theorem MX3_begin_st {l0 : Launch} {Y : fj_Y} {ad : Nat → Nat} {n : Nat} {S : ph_S} {pr : Nat} (W : WS pr n S) (a1 : Int32) (h : ph_H) (hP : PX3_begin_st a1 h) : MV l0 yX3_begin cX3_begin 3 ({ frames := 1, cells := 0, slots := 0, locals := 26 } : Room) Y ad n S h [.ref (ad 15), .ref (ad 8), .int a1] (fun S' h' => S' = S ∧ h' = FX3_begin_st a1 h) := met_v (by decide) (Nat.le_of_ble_eq_true rfl) (fun X C K => j_vl (tX3_begin_st W C a1 h hP (fun pc lv hd => K _ _ ⟨rfl, rfl⟩ pc lv hd)) ⟨rfl, rfl, rfl, trivial⟩)

-- X4_forget
def FX4_forget (h : ph_H) : ph_H := (hs h 47 6 0)
def PX4_forget (h : ph_H) : Prop := True
set_option maxRecDepth 100000 in
set_option maxHeartbeats 4000000 in
theorem tX4_forget {X : fj_X} {Y : fj_Y} {l0 : Launch} {ad : Nat → Nat} {n : Nat} {S : ph_S} {pr : Nat} (W : WS pr n S) (C : FC X Y l0 cX4_forget 1 RX4 ({ frames := 0, cells := 0, slots := 0, locals := 0 } : Room) 0 0 none) (h : ph_H) (hP : PX4_forget h) (hR : RETv X Y ad n S cX4_forget (FX4_forget h)) : FJ X Y ad n S h 0 [(0, .ref (ad 47))] [] := by
  unfold PX4_forget at hP
  unfold FX4_forget at hR
  refine j_aload_n C dX4_forget_0 rfl rfl ?_
  refine j_iconst (v := 0) C dX4_forget_1 (by decide) ?_
  refine pCRX4_28 C dX4_forget_2 (W.lt 47 (by decide)) (sh_47 W) rfl bo_0 ?_
  exact hR _ _ dX4_forget_5
theorem MX4_forget {l0 : Launch} {Y : fj_Y} {ad : Nat → Nat} {n : Nat} {S : ph_S} {pr : Nat} (W : WS pr n S) (h : ph_H) (hP : PX4_forget h) : MV l0 yX4_forget cX4_forget 1 ({ frames := 0, cells := 0, slots := 0, locals := 0 } : Room) Y ad n S h [.ref (ad 47)] (fun S' h' => S' = S ∧ h' = FX4_forget h) := met_v (by decide) (Nat.le_of_ble_eq_true rfl) (fun X C K => j_vl (tX4_forget W C h hP (fun pc lv hd => K _ _ ⟨rfl, rfl⟩ pc lv hd)) ⟨rfl, trivial⟩)

-- X5_become_tn
def FX5_become_tn (h : ph_H) : ph_H := (hs (hs (hc (hc (hc (hc (hc (hc h 2 9 0 0 4) 3 10 0 0 384) 4 11 0 0 12) 5 12 0 0 30) 6 13 0 0 40) 7 14 0 0 40) 8 6 ((hc (hc (hc (hc (hc (hc h 2 9 0 0 4) 3 10 0 0 384) 4 11 0 0 12) 5 12 0 0 30) 6 13 0 0 40) 7 14 0 0 40) 1 6)) 8 7 ((hc (hc (hc (hc (hc (hc h 2 9 0 0 4) 3 10 0 0 384) 4 11 0 0 12) 5 12 0 0 30) 6 13 0 0 40) 7 14 0 0 40) 1 7))
def PX5_become_tn (h : ph_H) : Prop := cpok 0 0 4 4 4 ∧ (cpok 0 0 384 384 384 ∧ (cpok 0 0 12 12 12 ∧ (cpok 0 0 30 30 30 ∧ (cpok 0 0 40 40 40 ∧ (cpok 0 0 40 40 40 ∧ (True))))))
set_option maxRecDepth 100000 in
set_option maxHeartbeats 4000000 in
theorem tX5_become_tn {X : fj_X} {Y : fj_Y} {l0 : Launch} {ad : Nat → Nat} {n : Nat} {S : ph_S} {pr : Nat} (W : WS pr n S) (C : FC X Y l0 cX5_become 2 RX5 ({ frames := 1, cells := 0, slots := 0, locals := 26 } : Room) 0 0 none) (h : ph_H) (hP : PX5_become_tn h) (hR : RETv X Y ad n S cX5_become (FX5_become_tn h)) : FJ X Y ad n S h 0 [(0, .ref (ad 8)), (1, .ref (ad 1))] [] := by
  unfold PX5_become_tn at hP
  unfold FX5_become_tn at hR
  refine j_aload_n C dX5_become_0 rfl rfl ?_
  refine gCRX5_9 C dX5_become_1 (W.lt 1 (by decide)) (sh_1 W) rfl ?_
  refine j_iconst (v := 0) C dX5_become_4 (by decide) ?_
  refine j_aload_n C dX5_become_5 rfl rfl ?_
  refine gCRX5_9 C dX5_become_6 (W.lt 8 (by decide)) (sh_8 W) rfl ?_
  refine j_iconst (v := 0) C dX5_become_9 (by decide) ?_
  refine j_iconst (v := 4) C dX5_become_10 (by decide) ?_
  obtain ⟨p7, hP⟩ := hP
  refine j_copy (k0 := 2) (k1 := 9) C dX5_become_11 lk_RX5_30 ac_n ac_s ac_i (W.lt 2 (by decide)) (sh_2 W) (W.lt 9 (by decide)) (sh_9 W) p7 (by decide) (Nat.le_of_ble_eq_true rfl) ?_
  refine j_aload_n C dX5_become_14 rfl rfl ?_
  refine gCRX5_15 C dX5_become_15 (W.lt 1 (by decide)) (sh_1 W) rfl ?_
  refine j_iconst (v := 0) C dX5_become_18 (by decide) ?_
  refine j_aload_n C dX5_become_19 rfl rfl ?_
  refine gCRX5_15 C dX5_become_20 (W.lt 8 (by decide)) (sh_8 W) rfl ?_
  refine j_iconst (v := 0) C dX5_become_23 (by decide) ?_
  refine j_aload_n C dX5_become_24 rfl rfl ?_
  refine gCRX5_15 C dX5_become_25 (W.lt 8 (by decide)) (sh_8 W) rfl ?_
  refine j_alen (v := 384) (ty := .int) C dX5_become_28 (W.lt 10 (by decide)) (sh_10 W) rfl (by decide) ?_
  obtain ⟨p18, hP⟩ := hP
  refine j_copy (k0 := 3) (k1 := 10) C dX5_become_29 lk_RX5_30 ac_n ac_s ac_i (W.lt 3 (by decide)) (sh_3 W) (W.lt 10 (by decide)) (sh_10 W) p18 (by decide) (Nat.le_of_ble_eq_true rfl) ?_
  refine j_aload_n C dX5_become_32 rfl rfl ?_
  refine gCRX5_18 C dX5_become_33 (W.lt 1 (by decide)) (sh_1 W) rfl ?_
  refine j_iconst (v := 0) C dX5_become_36 (by decide) ?_
  refine j_aload_n C dX5_become_37 rfl rfl ?_
  refine gCRX5_18 C dX5_become_38 (W.lt 8 (by decide)) (sh_8 W) rfl ?_
  refine j_iconst (v := 0) C dX5_become_41 (by decide) ?_
  refine j_bipush (v := 12) C dX5_become_42 (by decide) ?_
  obtain ⟨p27, hP⟩ := hP
  refine j_copy (k0 := 4) (k1 := 11) C dX5_become_44 lk_RX5_30 ac_n ac_s ac_i (W.lt 4 (by decide)) (sh_4 W) (W.lt 11 (by decide)) (sh_11 W) p27 (by decide) (Nat.le_of_ble_eq_true rfl) ?_
  refine j_aload_n C dX5_become_47 rfl rfl ?_
  refine gCRX5_21 C dX5_become_48 (W.lt 1 (by decide)) (sh_1 W) rfl ?_
  refine j_iconst (v := 0) C dX5_become_51 (by decide) ?_
  refine j_aload_n C dX5_become_52 rfl rfl ?_
  refine gCRX5_21 C dX5_become_53 (W.lt 8 (by decide)) (sh_8 W) rfl ?_
  refine j_iconst (v := 0) C dX5_become_56 (by decide) ?_
  refine j_bipush (v := 30) C dX5_become_57 (by decide) ?_
  obtain ⟨p36, hP⟩ := hP
  refine j_copy (k0 := 5) (k1 := 12) C dX5_become_59 lk_RX5_30 ac_n ac_s ac_i (W.lt 5 (by decide)) (sh_5 W) (W.lt 12 (by decide)) (sh_12 W) p36 (by decide) (Nat.le_of_ble_eq_true rfl) ?_
  refine j_aload_n C dX5_become_62 rfl rfl ?_
  refine gCRX5_24 C dX5_become_63 (W.lt 1 (by decide)) (sh_1 W) rfl ?_
  refine j_iconst (v := 0) C dX5_become_66 (by decide) ?_
  refine j_aload_n C dX5_become_67 rfl rfl ?_
  refine gCRX5_24 C dX5_become_68 (W.lt 8 (by decide)) (sh_8 W) rfl ?_
  refine j_iconst (v := 0) C dX5_become_71 (by decide) ?_
  refine j_bipush (v := 40) C dX5_become_72 (by decide) ?_
  obtain ⟨p45, hP⟩ := hP
  refine j_copy (k0 := 6) (k1 := 13) C dX5_become_74 lk_RX5_30 ac_n ac_s ac_i (W.lt 6 (by decide)) (sh_6 W) (W.lt 13 (by decide)) (sh_13 W) p45 (by decide) (Nat.le_of_ble_eq_true rfl) ?_
  refine j_aload_n C dX5_become_77 rfl rfl ?_
  refine gCRX5_27 C dX5_become_78 (W.lt 1 (by decide)) (sh_1 W) rfl ?_
  refine j_iconst (v := 0) C dX5_become_81 (by decide) ?_
  refine j_aload_n C dX5_become_82 rfl rfl ?_
  refine gCRX5_27 C dX5_become_83 (W.lt 8 (by decide)) (sh_8 W) rfl ?_
  refine j_iconst (v := 0) C dX5_become_86 (by decide) ?_
  refine j_bipush (v := 40) C dX5_become_87 (by decide) ?_
  obtain ⟨p54, hP⟩ := hP
  refine j_copy (k0 := 7) (k1 := 14) C dX5_become_89 lk_RX5_30 ac_n ac_s ac_i (W.lt 7 (by decide)) (sh_7 W) (W.lt 14 (by decide)) (sh_14 W) p54 (by decide) (Nat.le_of_ble_eq_true rfl) ?_
  refine j_aload_n C dX5_become_92 rfl rfl ?_
  refine j_aload_n C dX5_become_93 rfl rfl ?_
  refine gCRX5_36 (v := ((hc (hc (hc (hc (hc (hc h 2 9 0 0 4) 3 10 0 0 384) 4 11 0 0 12) 5 12 0 0 30) 6 13 0 0 40) 7 14 0 0 40) 1 6)) C dX5_become_94 (W.lt 1 (by decide)) (sh_1 W) rfl rfl ?_
  refine pCRX5_36 C dX5_become_97 (W.lt 8 (by decide)) (sh_8 W) rfl ?_
  refine j_aload_n C dX5_become_100 rfl rfl ?_
  refine j_aload_n C dX5_become_101 rfl rfl ?_
  refine gCRX5_40 (v := ((hc (hc (hc (hc (hc (hc h 2 9 0 0 4) 3 10 0 0 384) 4 11 0 0 12) 5 12 0 0 30) 6 13 0 0 40) 7 14 0 0 40) 1 7)) C dX5_become_102 (W.lt 1 (by decide)) (sh_1 W) rfl (hz_k (by decide)) ?_
  refine pCRX5_40 C dX5_become_105 (W.lt 8 (by decide)) (sh_8 W) rfl ?_
  exact hR _ _ dX5_become_108
theorem MX5_become_tn {l0 : Launch} {Y : fj_Y} {ad : Nat → Nat} {n : Nat} {S : ph_S} {pr : Nat} (W : WS pr n S) (h : ph_H) (hP : PX5_become_tn h) : MV l0 yX5_become cX5_become 2 ({ frames := 1, cells := 0, slots := 0, locals := 26 } : Room) Y ad n S h [.ref (ad 8), .ref (ad 1)] (fun S' h' => S' = S ∧ h' = FX5_become_tn h) := met_v (by decide) (Nat.le_of_ble_eq_true rfl) (fun X C K => j_vl (tX5_become_tn W C h hP (fun pc lv hd => K _ _ ⟨rfl, rfl⟩ pc lv hd)) ⟨rfl, rfl, trivial⟩)

-- X11_run
def FX11_run_47  (h : ph_H) : Int32 × ph_H := ((h 35 13), (hs (hs (hs h 0 8 1) 0 9 (h 35 11)) 0 10 (h 35 11)))
def PX11_run_47  (h : ph_H) : Prop := True
set_option maxRecDepth 100000 in
set_option maxHeartbeats 4000000 in
theorem tX11_run_47 {X : fj_X} {Y : fj_Y} {l0 : Launch} {ad : Nat → Nat} {n : Nat} {S : ph_S} {pr : Nat} (W : WS pr n S) (C : FC X Y l0 cX11_run 1 RX11 ({ frames := 7, cells := 0, slots := 0, locals := 169 } : Room) 0 0 (some .int)) (h : ph_H) (hP : PX11_run_47  h) (hR : RETi X Y ad n S cX11_run (FX11_run_47  h)) : FJ X Y ad n S h 47 [(0, .ref (ad 0))] [] := by
  unfold PX11_run_47 at hP
  unfold FX11_run_47 at hR
  refine j_aload_n C dX11_run_47 rfl rfl ?_
  refine j_iconst (v := 1) C dX11_run_48 (by decide) ?_
  refine pCRX11_116 C dX11_run_49 (W.lt 0 (by decide)) (sh_0 W) rfl bo_1 ?_
  refine j_aload_n C dX11_run_52 rfl rfl ?_
  refine j_aload_n C dX11_run_53 rfl rfl ?_
  refine gCRX11_34 C dX11_run_54 (W.lt 0 (by decide)) (sh_0 W) rfl ?_
  refine gCRX11_120 (v := (h 35 11)) C dX11_run_57 (W.lt 35 (by decide)) (sh_35 W) rfl (hz_k (by decide)) ?_
  refine pCRX11_123 C dX11_run_60 (W.lt 0 (by decide)) (sh_0 W) rfl ?_
  refine j_aload_n C dX11_run_63 rfl rfl ?_
  refine j_aload_n C dX11_run_64 rfl rfl ?_
  refine gCRX11_34 C dX11_run_65 (W.lt 0 (by decide)) (sh_0 W) rfl ?_
  refine gCRX11_120 (v := (h 35 11)) C dX11_run_68 (W.lt 35 (by decide)) (sh_35 W) rfl ((hz_k (by decide)).trans (hz_k (by decide))) ?_
  refine pCRX11_126 C dX11_run_71 (W.lt 0 (by decide)) (sh_0 W) rfl ?_
  refine j_aload_n C dX11_run_74 rfl rfl ?_
  refine gCRX11_34 C dX11_run_75 (W.lt 0 (by decide)) (sh_0 W) rfl ?_
  refine gCRX11_129 (v := (h 35 13)) C dX11_run_78 (W.lt 35 (by decide)) (sh_35 W) rfl ((hz_k (by decide)).trans ((hz_k (by decide)).trans (hz_k (by decide)))) ?_
  exact RETi_u hR _ _ dX11_run_81
def FX11_run_40  (h : ph_H) : Int32 × ph_H := FX11_run_47  (FX4_forget h)
def PX11_run_40  (h : ph_H) : Prop := (PX4_forget h) ∧ (PX11_run_47  (FX4_forget h))
set_option maxRecDepth 100000 in
set_option maxHeartbeats 4000000 in
theorem tX11_run_40 {X : fj_X} {Y : fj_Y} {l0 : Launch} {ad : Nat → Nat} {n : Nat} {S : ph_S} {pr : Nat} (W : WS pr n S) (C : FC X Y l0 cX11_run 1 RX11 ({ frames := 7, cells := 0, slots := 0, locals := 169 } : Room) 0 0 (some .int)) (h : ph_H) (hP : PX11_run_40  h) (hR : RETi X Y ad n S cX11_run (FX11_run_40  h)) : FJ X Y ad n S h 40 [(0, .ref (ad 0))] [] := by
  unfold PX11_run_40 at hP
  unfold FX11_run_40 at hR
  refine j_aload_n C dX11_run_40 rfl rfl ?_
  refine gCRX11_43 C dX11_run_41 (W.lt 0 (by decide)) (sh_0 W) rfl ?_
  obtain ⟨p2, hP⟩ := hP
  refine j_callVv C (MX4_forget W h p2) dX11_run_44 (CKX4_forget (by decide)) ⟨rfl, rfl⟩ lk_RX11_113 in_X4_forget se_X4_forget (W.lt 47 (by decide)) (sh_47 W) rfl rfl (Nat.le_of_ble_eq_true rfl) ?_
  intro S' h' hq
  obtain ⟨e1, e2⟩ := hq
  rw [e1, e2]
  exact j_vl (tX11_run_47 W C  (FX4_forget h) hP hR) ⟨rfl, trivial⟩
def FX11_run_29  (h : ph_H) : Int32 × ph_H := FX11_run_40  (FX10_record_s h)
def PX11_run_29  (h : ph_H) : Prop := (PX10_record_s h) ∧ (PX11_run_40  (FX10_record_s h))
set_option maxRecDepth 100000 in
set_option maxHeartbeats 4000000 in
theorem tX11_run_29 {X : fj_X} {Y : fj_Y} {l0 : Launch} {ad : Nat → Nat} {n : Nat} {S : ph_S} {pr : Nat} (W : WS pr n S) (C : FC X Y l0 cX11_run 1 RX11 ({ frames := 7, cells := 0, slots := 0, locals := 169 } : Room) 0 0 (some .int)) (h : ph_H) (hP : PX11_run_29  h) (hR : RETi X Y ad n S cX11_run (FX11_run_29  h)) : FJ X Y ad n S h 29 [(0, .ref (ad 0))] [] := by
  unfold PX11_run_29 at hP
  unfold FX11_run_29 at hR
  refine j_aload_n C dX11_run_29 rfl rfl ?_
  refine gCRX11_34 C dX11_run_30 (W.lt 0 (by decide)) (sh_0 W) rfl ?_
  refine j_aload_n C dX11_run_33 rfl rfl ?_
  refine gCRX11_24 C dX11_run_34 (W.lt 0 (by decide)) (sh_0 W) rfl ?_
  obtain ⟨p4, hP⟩ := hP
  refine j_callVv C (MX10_record_s W h p4) dX11_run_37 (CKX10_record (by decide)) ⟨rfl, rfl⟩ lk_RX11_109 in_X10_record se_X10_record (W.lt 35 (by decide)) (sh_35 W) rfl rfl (Nat.le_of_ble_eq_true rfl) ?_
  intro S' h' hq
  obtain ⟨e1, e2⟩ := hq
  rw [e1, e2]
  exact j_vl (tX11_run_40 W C  (FX10_record_s h) hP hR) ⟨rfl, trivial⟩
def FX11_run_11  (h : ph_H) : Int32 × ph_H := FX11_run_29  (FX3_begin_st (h 8 6) h)
def PX11_run_11  (h : ph_H) : Prop := (PX3_begin_st (h 8 6) h) ∧ (PX11_run_29  (FX3_begin_st (h 8 6) h))
set_option maxRecDepth 100000 in
set_option maxHeartbeats 4000000 in
theorem tX11_run_11 {X : fj_X} {Y : fj_Y} {l0 : Launch} {ad : Nat → Nat} {n : Nat} {S : ph_S} {pr : Nat} (W : WS pr n S) (C : FC X Y l0 cX11_run 1 RX11 ({ frames := 7, cells := 0, slots := 0, locals := 169 } : Room) 0 0 (some .int)) (h : ph_H) (hP : PX11_run_11  h) (hR : RETi X Y ad n S cX11_run (FX11_run_11  h)) : FJ X Y ad n S h 11 [(0, .ref (ad 0))] [] := by
  unfold PX11_run_11 at hP
  unfold FX11_run_11 at hR
  refine j_aload_n C dX11_run_11 rfl rfl ?_
  refine gCRX11_24 C dX11_run_12 (W.lt 0 (by decide)) (sh_0 W) rfl ?_
  refine j_aload_n C dX11_run_15 rfl rfl ?_
  refine gCRX11_16 C dX11_run_16 (W.lt 0 (by decide)) (sh_0 W) rfl ?_
  refine j_aload_n C dX11_run_19 rfl rfl ?_
  refine gCRX11_16 C dX11_run_20 (W.lt 0 (by decide)) (sh_0 W) rfl ?_
  refine gCRX11_87 (v := (h 8 6)) C dX11_run_23 (W.lt 8 (by decide)) (sh_8 W) rfl rfl ?_
  obtain ⟨p7, hP⟩ := hP
  refine j_callVv C (MX3_begin_st W (h 8 6) h p7) dX11_run_26 (CKX3_begin (by decide)) ⟨rfl, rfl⟩ lk_RX11_105 in_X3_begin se_X3_begin (W.lt 15 (by decide)) (sh_15 W) rfl rfl (Nat.le_of_ble_eq_true rfl) ?_
  intro S' h' hq
  obtain ⟨e1, e2⟩ := hq
  rw [e1, e2]
  exact j_vl (tX11_run_29 W C  (FX3_begin_st (h 8 6) h) hP hR) ⟨rfl, trivial⟩
def FX11_run (h : ph_H) : Int32 × ph_H := FX11_run_11  (FX5_become_tn h)
def PX11_run (h : ph_H) : Prop := (PX5_become_tn h) ∧ (PX11_run_11  (FX5_become_tn h))
set_option maxRecDepth 100000 in
set_option maxHeartbeats 4000000 in
theorem tX11_run {X : fj_X} {Y : fj_Y} {l0 : Launch} {ad : Nat → Nat} {n : Nat} {S : ph_S} {pr : Nat} (W : WS pr n S) (C : FC X Y l0 cX11_run 1 RX11 ({ frames := 7, cells := 0, slots := 0, locals := 169 } : Room) 0 0 (some .int)) (h : ph_H) (hP : PX11_run h) (hR : RETi X Y ad n S cX11_run (FX11_run h)) : FJ X Y ad n S h 0 [(0, .ref (ad 0))] [] := by
  unfold PX11_run at hP
  unfold FX11_run at hR
  refine j_aload_n C dX11_run_0 rfl rfl ?_
  refine gCRX11_16 C dX11_run_1 (W.lt 0 (by decide)) (sh_0 W) rfl ?_
  refine j_aload_n C dX11_run_4 rfl rfl ?_
  refine gCRX11_12 C dX11_run_5 (W.lt 0 (by decide)) (sh_0 W) rfl ?_
  obtain ⟨p4, hP⟩ := hP
  refine j_callVv C (MX5_become_tn W h p4) dX11_run_8 (CKX5_become (by decide)) ⟨rfl, rfl⟩ lk_RX11_102 in_X5_become se_X5_become (W.lt 8 (by decide)) (sh_8 W) rfl rfl (Nat.le_of_ble_eq_true rfl) ?_
  intro S' h' hq
  obtain ⟨e1, e2⟩ := hq
  rw [e1, e2]
  exact j_vl (tX11_run_11 W C  (FX5_become_tn h) hP hR) ⟨rfl, trivial⟩
theorem MX11_run {l0 : Launch} {Y : fj_Y} {ad : Nat → Nat} {n : Nat} {S : ph_S} {pr : Nat} (W : WS pr n S) (h : ph_H) (hP : PX11_run h) : MI l0 yX11_run cX11_run 1 (some .int) ({ frames := 7, cells := 0, slots := 0, locals := 169 } : Room) Y ad n S h [.ref (ad 0)] (fun r S' h' => S' = S ∧ h' = (FX11_run h).2 ∧ r = (FX11_run h).1) := met_i (by decide) (Nat.le_of_ble_eq_true rfl) (fun _ _ _ _ => rfl) (fun X C K => j_vl (tX11_run W C h hP (fun pc lv hd => K _ _ _ ⟨rfl, rfl, rfl⟩ pc lv hd)) ⟨rfl, trivial⟩)

-- X11_told
def FX11_told (a0 : Int32) (h : ph_H) : Int32 := if (h 0 8) = 0 then ((-2)) else (if a0 = 0 then ((h 35 13)) else (if a0 = 1 then ((h 35 11)) else (if a0 = 2 then ((h 35 14)) else (if a0 = 3 then (if (h 35 14) = 0 then ((-1)) else ((FX10_latestThread h))) else (if a0 = 4 then ((h 35 15)) else (if a0 = 5 then ((h 35 12)) else (if a0 = 6 then ((h 35 16)) else (if a0 = 7 then (((3 * (h 35 12)) + (4 * (h 35 16)))) else ((-1))))))))))
def PX11_told (a0 : Int32) (h : ph_H) : Prop := ((h 0 8) = 0 → (True)) ∧ (¬ (h 0 8) = 0 → ((a0 = 0 → (True)) ∧ (¬ a0 = 0 → ((a0 = 1 → (True)) ∧ (¬ a0 = 1 → ((a0 = 2 → (True)) ∧ (¬ a0 = 2 → ((a0 = 3 → (((h 35 14) = 0 → (True)) ∧ (¬ (h 35 14) = 0 → ((PX10_latestThread h) ∧ (True))))) ∧ (¬ a0 = 3 → ((a0 = 4 → (True)) ∧ (¬ a0 = 4 → ((a0 = 5 → (True)) ∧ (¬ a0 = 5 → ((a0 = 6 → (True)) ∧ (¬ a0 = 6 → ((a0 = 7 → (True)) ∧ (¬ a0 = 7 → (True))))))))))))))))))
set_option maxRecDepth 100000 in
set_option maxHeartbeats 4000000 in
theorem tX11_told {X : fj_X} {Y : fj_Y} {l0 : Launch} {ad : Nat → Nat} {n : Nat} {S : ph_S} {pr : Nat} (W : WS pr n S) (C : FC X Y l0 cX11_told 2 RX11 ({ frames := 1, cells := 0, slots := 0, locals := 20 } : Room) 0 0 (some .int)) (a0 : Int32) (h : ph_H) (hP : PX11_told a0 h) (hR : RETp X Y ad n S h cX11_told (FX11_told a0 h)) : FJ X Y ad n S h 0 [(0, .ref (ad 0)), (1, .int a0)] [] := by
  unfold PX11_told at hP
  unfold FX11_told at hR
  refine j_aload_n C dX11_told_0 rfl rfl ?_
  refine gCRX11_116 (v := (h 0 8)) C dX11_told_1 (W.lt 0 (by decide)) (sh_0 W) rfl rfl ?_
  refine j_if_ne (tgt := 10) C dX11_told_4 (by decide) (fun c0 => ?_) (fun c0 => ?_)
  · have hP := hP.2 c0
    rw [if_neg c0] at hR
    refine j_iload_n C dX11_told_10 rfl rfl ?_
    rcases Classical.em (a0 = 0) with c1 | c1
    · have hP := hP.1 c1
      rw [if_pos c1] at hR
      refine j_tableIn (tgt := 56) (off := 45) C dX11_told_11 (by rw [c1]; decide) (by rw [c1]; decide) (by rw [c1]; decide) (by decide) ?_
      refine j_aload_n C dX11_told_56 rfl rfl ?_
      refine gCRX11_34 C dX11_told_57 (W.lt 0 (by decide)) (sh_0 W) rfl ?_
      refine gCRX11_129 (v := (h 35 13)) C dX11_told_60 (W.lt 35 (by decide)) (sh_35 W) rfl rfl ?_
      exact hR _ _ dX11_told_63
    have hP := hP.2 c1
    rw [if_neg c1] at hR
    rcases Classical.em (a0 = 1) with c2 | c2
    · have hP := hP.1 c2
      rw [if_pos c2] at hR
      refine j_tableIn (tgt := 64) (off := 53) C dX11_told_11 (by rw [c2]; decide) (by rw [c2]; decide) (by rw [c2]; decide) (by decide) ?_
      refine j_aload_n C dX11_told_64 rfl rfl ?_
      refine gCRX11_34 C dX11_told_65 (W.lt 0 (by decide)) (sh_0 W) rfl ?_
      refine gCRX11_120 (v := (h 35 11)) C dX11_told_68 (W.lt 35 (by decide)) (sh_35 W) rfl rfl ?_
      exact hR _ _ dX11_told_71
    have hP := hP.2 c2
    rw [if_neg c2] at hR
    rcases Classical.em (a0 = 2) with c3 | c3
    · have hP := hP.1 c3
      rw [if_pos c3] at hR
      refine j_tableIn (tgt := 72) (off := 61) C dX11_told_11 (by rw [c3]; decide) (by rw [c3]; decide) (by rw [c3]; decide) (by decide) ?_
      refine j_aload_n C dX11_told_72 rfl rfl ?_
      refine gCRX11_34 C dX11_told_73 (W.lt 0 (by decide)) (sh_0 W) rfl ?_
      refine gCRX11_132 (v := (h 35 14)) C dX11_told_76 (W.lt 35 (by decide)) (sh_35 W) rfl rfl ?_
      exact hR _ _ dX11_told_79
    have hP := hP.2 c3
    rw [if_neg c3] at hR
    rcases Classical.em (a0 = 3) with c4 | c4
    · have hP := hP.1 c4
      rw [if_pos c4] at hR
      refine j_tableIn (tgt := 80) (off := 69) C dX11_told_11 (by rw [c4]; decide) (by rw [c4]; decide) (by rw [c4]; decide) (by decide) ?_
      refine j_aload_n C dX11_told_80 rfl rfl ?_
      refine gCRX11_34 C dX11_told_81 (W.lt 0 (by decide)) (sh_0 W) rfl ?_
      refine gCRX11_132 (v := (h 35 14)) C dX11_told_84 (W.lt 35 (by decide)) (sh_35 W) rfl rfl ?_
      refine j_if_ne (tgt := 94) C dX11_told_87 (by decide) (fun c5 => ?_) (fun c5 => ?_)
      · have hP := hP.2 c5
        rw [if_neg c5] at hR
        refine j_aload_n C dX11_told_94 rfl rfl ?_
        refine gCRX11_34 C dX11_told_95 (W.lt 0 (by decide)) (sh_0 W) rfl ?_
        obtain ⟨p2, hP⟩ := hP
        refine j_callV C (MX10_latestThread W h p2) dX11_told_98 (CKX10_latestThread (by decide)) ⟨rfl, rfl⟩ lk_RX11_135 in_X10_latestThread se_X10_latestThread (W.lt 35 (by decide)) (sh_35 W) rfl rfl (Nat.le_of_ble_eq_true rfl) ?_
        intro r S' h' hq
        obtain ⟨e1, hh, e3⟩ := hq
        rw [e1, hh, e3]
        exact hR _ _ dX11_told_101
      · have hP := hP.1 c5
        rw [if_pos c5] at hR
        refine j_iconst (v := (-1)) C dX11_told_90 (by decide) ?_
        refine j_goto (tgt := 101) C dX11_told_91 (by decide) ?_
        exact hR _ _ dX11_told_101
    have hP := hP.2 c4
    rw [if_neg c4] at hR
    rcases Classical.em (a0 = 4) with c5 | c5
    · have hP := hP.1 c5
      rw [if_pos c5] at hR
      refine j_tableIn (tgt := 102) (off := 91) C dX11_told_11 (by rw [c5]; decide) (by rw [c5]; decide) (by rw [c5]; decide) (by decide) ?_
      refine j_aload_n C dX11_told_102 rfl rfl ?_
      refine gCRX11_34 C dX11_told_103 (W.lt 0 (by decide)) (sh_0 W) rfl ?_
      refine gCRX11_139 (v := (h 35 15)) C dX11_told_106 (W.lt 35 (by decide)) (sh_35 W) rfl rfl ?_
      exact hR _ _ dX11_told_109
    have hP := hP.2 c5
    rw [if_neg c5] at hR
    rcases Classical.em (a0 = 5) with c6 | c6
    · have hP := hP.1 c6
      rw [if_pos c6] at hR
      refine j_tableIn (tgt := 110) (off := 99) C dX11_told_11 (by rw [c6]; decide) (by rw [c6]; decide) (by rw [c6]; decide) (by decide) ?_
      refine j_aload_n C dX11_told_110 rfl rfl ?_
      refine gCRX11_34 C dX11_told_111 (W.lt 0 (by decide)) (sh_0 W) rfl ?_
      refine gCRX11_142 (v := (h 35 12)) C dX11_told_114 (W.lt 35 (by decide)) (sh_35 W) rfl rfl ?_
      exact hR _ _ dX11_told_117
    have hP := hP.2 c6
    rw [if_neg c6] at hR
    rcases Classical.em (a0 = 6) with c7 | c7
    · have hP := hP.1 c7
      rw [if_pos c7] at hR
      refine j_tableIn (tgt := 118) (off := 107) C dX11_told_11 (by rw [c7]; decide) (by rw [c7]; decide) (by rw [c7]; decide) (by decide) ?_
      refine j_aload_n C dX11_told_118 rfl rfl ?_
      refine gCRX11_34 C dX11_told_119 (W.lt 0 (by decide)) (sh_0 W) rfl ?_
      refine gCRX11_145 (v := (h 35 16)) C dX11_told_122 (W.lt 35 (by decide)) (sh_35 W) rfl rfl ?_
      exact hR _ _ dX11_told_125
    have hP := hP.2 c7
    rw [if_neg c7] at hR
    rcases Classical.em (a0 = 7) with c8 | c8
    · have hP := hP.1 c8
      rw [if_pos c8] at hR
      refine j_tableIn (tgt := 126) (off := 115) C dX11_told_11 (by rw [c8]; decide) (by rw [c8]; decide) (by rw [c8]; decide) (by decide) ?_
      refine j_iconst (v := 3) C dX11_told_126 (by decide) ?_
      refine j_aload_n C dX11_told_127 rfl rfl ?_
      refine gCRX11_34 C dX11_told_128 (W.lt 0 (by decide)) (sh_0 W) rfl ?_
      refine gCRX11_142 (v := (h 35 12)) C dX11_told_131 (W.lt 35 (by decide)) (sh_35 W) rfl rfl ?_
      refine j_imul C dX11_told_134 ?_
      refine j_iconst (v := 4) C dX11_told_135 (by decide) ?_
      refine j_aload_n C dX11_told_136 rfl rfl ?_
      refine gCRX11_34 C dX11_told_137 (W.lt 0 (by decide)) (sh_0 W) rfl ?_
      refine gCRX11_145 (v := (h 35 16)) C dX11_told_140 (W.lt 35 (by decide)) (sh_35 W) rfl rfl ?_
      refine j_imul C dX11_told_143 ?_
      refine j_iadd C dX11_told_144 ?_
      exact hR _ _ dX11_told_145
    have hP := hP.2 c8
    rw [if_neg c8] at hR
    refine j_tableOut (tgt := 146) C dX11_told_11 (sw_out (fun v h1 h2 e => by rcases (show v = 0 ∨ v = 1 ∨ v = 2 ∨ v = 3 ∨ v = 4 ∨ v = 5 ∨ v = 6 ∨ v = 7 by omega) with z | z | z | z | z | z | z | z <;> rw [z] at e <;> first | exact c1 (e.trans (by decide)) | exact c2 (e.trans (by decide)) | exact c3 (e.trans (by decide)) | exact c4 (e.trans (by decide)) | exact c5 (e.trans (by decide)) | exact c6 (e.trans (by decide)) | exact c7 (e.trans (by decide)) | exact c8 (e.trans (by decide)))) (by decide) ?_
    refine j_iconst (v := (-1)) C dX11_told_146 (by decide) ?_
    exact hR _ _ dX11_told_147
  · have hP := hP.1 c0
    rw [if_pos c0] at hR
    refine j_bipush (v := (-2)) C dX11_told_7 (by decide) ?_
    exact hR _ _ dX11_told_9
theorem MX11_told {l0 : Launch} {Y : fj_Y} {ad : Nat → Nat} {n : Nat} {S : ph_S} {pr : Nat} (W : WS pr n S) (a0 : Int32) (h : ph_H) (hP : PX11_told a0 h) : MI l0 yX11_told cX11_told 2 (some .int) ({ frames := 1, cells := 0, slots := 0, locals := 20 } : Room) Y ad n S h [.ref (ad 0), .int a0] (fun r S' h' => S' = S ∧ h' = h ∧ r = FX11_told a0 h) := met_i (by decide) (Nat.le_of_ble_eq_true rfl) (fun _ _ _ _ => rfl) (fun X C K => j_vl (tX11_told W C a0 h hP (fun pc lv hd => K _ _ _ ⟨rfl, rfl, rfl⟩ pc lv hd)) ⟨rfl, rfl, trivial⟩)

-- X11_change
def FX11_change (a0 : Int32) (a1 : Int32) (h : ph_H) : Int32 := if (h 0 8) = 0 then ((-1)) else (if a0 < 0 then ((-1)) else (if (h 35 12) ≤ a0 then ((-1)) else (if a1 < 0 then ((-1)) else (if a1 ≤ 1 then (if a1 = 0 then ((h 45 (a0.toNatClampNeg))) else ((h 46 (a0.toNatClampNeg)))) else ((-1))))))
def PX11_change (a0 : Int32) (a1 : Int32) (h : ph_H) : Prop := ((h 0 8) = 0 → (True)) ∧ (¬ (h 0 8) = 0 → ((a0 < 0 → (True)) ∧ (¬ a0 < 0 → (((h 35 12) ≤ a0 → (True)) ∧ (¬ (h 35 12) ≤ a0 → ((a1 < 0 → (True)) ∧ (¬ a1 < 0 → ((a1 ≤ 1 → ((a1 = 0 → (vp_in a0 300 ∧ (True))) ∧ (¬ a1 = 0 → (vp_in a0 300 ∧ (True))))) ∧ (¬ a1 ≤ 1 → (True))))))))))
set_option maxRecDepth 100000 in
set_option maxHeartbeats 4000000 in
theorem tX11_change {X : fj_X} {Y : fj_Y} {l0 : Launch} {ad : Nat → Nat} {n : Nat} {S : ph_S} {pr : Nat} (W : WS pr n S) (C : FC X Y l0 cX11_change 3 RX11 ({ frames := 0, cells := 0, slots := 0, locals := 0 } : Room) 0 0 (some .int)) (a0 : Int32) (a1 : Int32) (h : ph_H) (hP : PX11_change a0 a1 h) (hR : RETp X Y ad n S h cX11_change (FX11_change a0 a1 h)) : FJ X Y ad n S h 0 [(0, .ref (ad 0)), (1, .int a0), (2, .int a1)] [] := by
  unfold PX11_change at hP
  unfold FX11_change at hR
  refine j_aload_n C dX11_change_0 rfl rfl ?_
  refine gCRX11_116 (v := (h 0 8)) C dX11_change_1 (W.lt 0 (by decide)) (sh_0 W) rfl rfl ?_
  refine j_if_eq (tgt := 31) C dX11_change_4 (by decide) (fun c0 => ?_) (fun c0 => ?_)
  · have hP := hP.1 c0
    rw [if_pos c0] at hR
    refine j_iconst (v := (-1)) C dX11_change_31 (by decide) ?_
    exact hR _ _ dX11_change_32
  · have hP := hP.2 c0
    rw [if_neg c0] at hR
    refine j_iload_n C dX11_change_7 rfl rfl ?_
    refine j_if_lt (tgt := 31) C dX11_change_8 (by decide) (fun c1 => ?_) (fun c1 => ?_)
    · have hP := hP.1 c1
      rw [if_pos c1] at hR
      refine j_iconst (v := (-1)) C dX11_change_31 (by decide) ?_
      exact hR _ _ dX11_change_32
    · have hP := hP.2 c1
      rw [if_neg c1] at hR
      refine j_iload_n C dX11_change_11 rfl rfl ?_
      refine j_aload_n C dX11_change_12 rfl rfl ?_
      refine gCRX11_34 C dX11_change_13 (W.lt 0 (by decide)) (sh_0 W) rfl ?_
      refine gCRX11_142 (v := (h 35 12)) C dX11_change_16 (W.lt 35 (by decide)) (sh_35 W) rfl rfl ?_
      refine j_icmp_ge (tgt := 31) C dX11_change_19 (by decide) (fun c2 => ?_) (fun c2 => ?_)
      · have hP := hP.1 c2
        rw [if_pos c2] at hR
        refine j_iconst (v := (-1)) C dX11_change_31 (by decide) ?_
        exact hR _ _ dX11_change_32
      · have hP := hP.2 c2
        rw [if_neg c2] at hR
        refine j_iload_n C dX11_change_22 rfl rfl ?_
        refine j_if_lt (tgt := 31) C dX11_change_23 (by decide) (fun c3 => ?_) (fun c3 => ?_)
        · have hP := hP.1 c3
          rw [if_pos c3] at hR
          refine j_iconst (v := (-1)) C dX11_change_31 (by decide) ?_
          exact hR _ _ dX11_change_32
        · have hP := hP.2 c3
          rw [if_neg c3] at hR
          refine j_iload_n C dX11_change_26 rfl rfl ?_
          refine j_iconst (v := 1) C dX11_change_27 (by decide) ?_
          refine j_icmp_le (tgt := 33) C dX11_change_28 (by decide) (fun c4 => ?_) (fun c4 => ?_)
          · have hP := hP.1 c4
            rw [if_pos c4] at hR
            refine j_iload_n C dX11_change_33 rfl rfl ?_
            refine j_if_ne (tgt := 49) C dX11_change_34 (by decide) (fun c5 => ?_) (fun c5 => ?_)
            · have hP := hP.2 c5
              rw [if_neg c5] at hR
              refine j_aload_n C dX11_change_49 rfl rfl ?_
              refine gCRX11_34 C dX11_change_50 (W.lt 0 (by decide)) (sh_0 W) rfl ?_
              refine gCRX11_151 C dX11_change_53 (W.lt 35 (by decide)) (sh_35 W) rfl ?_
              refine j_iload_n C dX11_change_56 rfl rfl ?_
              obtain ⟨p4, hP⟩ := hP
              refine j_iald (k := 46) (v := (h 46 (a0.toNatClampNeg))) C dX11_change_57 (W.lt 46 (by decide)) (sh_46 W) p4 rfl ?_
              exact hR _ _ dX11_change_58
            · have hP := hP.1 c5
              rw [if_pos c5] at hR
              refine j_aload_n C dX11_change_37 rfl rfl ?_
              refine gCRX11_34 C dX11_change_38 (W.lt 0 (by decide)) (sh_0 W) rfl ?_
              refine gCRX11_148 C dX11_change_41 (W.lt 35 (by decide)) (sh_35 W) rfl ?_
              refine j_iload_n C dX11_change_44 rfl rfl ?_
              obtain ⟨p4, hP⟩ := hP
              refine j_iald (k := 45) (v := (h 45 (a0.toNatClampNeg))) C dX11_change_45 (W.lt 45 (by decide)) (sh_45 W) p4 rfl ?_
              refine j_goto (tgt := 58) C dX11_change_46 (by decide) ?_
              exact hR _ _ dX11_change_58
          · have hP := hP.2 c4
            rw [if_neg c4] at hR
            refine j_iconst (v := (-1)) C dX11_change_31 (by decide) ?_
            exact hR _ _ dX11_change_32
theorem MX11_change {l0 : Launch} {Y : fj_Y} {ad : Nat → Nat} {n : Nat} {S : ph_S} {pr : Nat} (W : WS pr n S) (a0 : Int32) (a1 : Int32) (h : ph_H) (hP : PX11_change a0 a1 h) : MI l0 yX11_change cX11_change 3 (some .int) ({ frames := 0, cells := 0, slots := 0, locals := 0 } : Room) Y ad n S h [.ref (ad 0), .int a0, .int a1] (fun r S' h' => S' = S ∧ h' = h ∧ r = FX11_change a0 a1 h) := met_i (by decide) (Nat.le_of_ble_eq_true rfl) (fun _ _ _ _ => rfl) (fun X C K => j_vl (tX11_change W C a0 a1 h hP (fun pc lv hd => K _ _ _ ⟨rfl, rfl, rfl⟩ pc lv hd)) ⟨rfl, rfl, rfl, trivial⟩)

-- X11_step
def FX11_step (a0 : Int32) (a1 : Int32) (h : ph_H) : Int32 := if (h 0 8) = 0 then ((-1)) else (if a0 < 1 then ((-1)) else (if a0 ≤ (h 35 11) then (if a1 = 0 then ((h 36 (a0.toNatClampNeg))) else (if a1 = 1 then ((h 37 (a0.toNatClampNeg))) else (if a1 = 2 then ((h 38 (a0.toNatClampNeg))) else (if a1 = 3 then ((h 39 (a0.toNatClampNeg))) else (if a1 = 4 then ((h 40 (a0.toNatClampNeg))) else (if a1 = 5 then ((h 43 (a0.toNatClampNeg))) else ((-1)))))))) else ((-1))))
def PX11_step (a0 : Int32) (a1 : Int32) (h : ph_H) : Prop := ((h 0 8) = 0 → (True)) ∧ (¬ (h 0 8) = 0 → ((a0 < 1 → (True)) ∧ (¬ a0 < 1 → ((a0 ≤ (h 35 11) → ((a1 = 0 → (vp_in a0 301 ∧ (True))) ∧ (¬ a1 = 0 → ((a1 = 1 → (vp_in a0 301 ∧ (True))) ∧ (¬ a1 = 1 → ((a1 = 2 → (vp_in a0 301 ∧ (True))) ∧ (¬ a1 = 2 → ((a1 = 3 → (vp_in a0 301 ∧ (True))) ∧ (¬ a1 = 3 → ((a1 = 4 → (vp_in a0 301 ∧ (True))) ∧ (¬ a1 = 4 → ((a1 = 5 → (vp_in a0 301 ∧ (True))) ∧ (¬ a1 = 5 → (True)))))))))))))) ∧ (¬ a0 ≤ (h 35 11) → (True))))))
set_option maxRecDepth 100000 in
set_option maxHeartbeats 4000000 in
theorem tX11_step {X : fj_X} {Y : fj_Y} {l0 : Launch} {ad : Nat → Nat} {n : Nat} {S : ph_S} {pr : Nat} (W : WS pr n S) (C : FC X Y l0 cX11_step 3 RX11 ({ frames := 0, cells := 0, slots := 0, locals := 0 } : Room) 0 0 (some .int)) (a0 : Int32) (a1 : Int32) (h : ph_H) (hP : PX11_step a0 a1 h) (hR : RETp X Y ad n S h cX11_step (FX11_step a0 a1 h)) : FJ X Y ad n S h 0 [(0, .ref (ad 0)), (1, .int a0), (2, .int a1)] [] := by
  unfold PX11_step at hP
  unfold FX11_step at hR
  refine j_aload_n C dX11_step_0 rfl rfl ?_
  refine gCRX11_116 (v := (h 0 8)) C dX11_step_1 (W.lt 0 (by decide)) (sh_0 W) rfl rfl ?_
  refine j_if_eq (tgt := 23) C dX11_step_4 (by decide) (fun c0 => ?_) (fun c0 => ?_)
  · have hP := hP.1 c0
    rw [if_pos c0] at hR
    refine j_iconst (v := (-1)) C dX11_step_23 (by decide) ?_
    exact hR _ _ dX11_step_24
  · have hP := hP.2 c0
    rw [if_neg c0] at hR
    refine j_iload_n C dX11_step_7 rfl rfl ?_
    refine j_iconst (v := 1) C dX11_step_8 (by decide) ?_
    refine j_icmp_lt (tgt := 23) C dX11_step_9 (by decide) (fun c1 => ?_) (fun c1 => ?_)
    · have hP := hP.1 c1
      rw [if_pos c1] at hR
      refine j_iconst (v := (-1)) C dX11_step_23 (by decide) ?_
      exact hR _ _ dX11_step_24
    · have hP := hP.2 c1
      rw [if_neg c1] at hR
      refine j_iload_n C dX11_step_12 rfl rfl ?_
      refine j_aload_n C dX11_step_13 rfl rfl ?_
      refine gCRX11_34 C dX11_step_14 (W.lt 0 (by decide)) (sh_0 W) rfl ?_
      refine gCRX11_120 (v := (h 35 11)) C dX11_step_17 (W.lt 35 (by decide)) (sh_35 W) rfl rfl ?_
      refine j_icmp_le (tgt := 25) C dX11_step_20 (by decide) (fun c2 => ?_) (fun c2 => ?_)
      · have hP := hP.1 c2
        rw [if_pos c2] at hR
        refine j_iload_n C dX11_step_25 rfl rfl ?_
        rcases Classical.em (a1 = 0) with c3 | c3
        · have hP := hP.1 c3
          rw [if_pos c3] at hR
          refine j_tableIn (tgt := 64) (off := 38) C dX11_step_26 (by rw [c3]; decide) (by rw [c3]; decide) (by rw [c3]; decide) (by decide) ?_
          refine j_aload_n C dX11_step_64 rfl rfl ?_
          refine gCRX11_34 C dX11_step_65 (W.lt 0 (by decide)) (sh_0 W) rfl ?_
          refine gCRX11_154 C dX11_step_68 (W.lt 35 (by decide)) (sh_35 W) rfl ?_
          refine j_iload_n C dX11_step_71 rfl rfl ?_
          obtain ⟨p4, hP⟩ := hP
          refine j_iald (k := 36) (v := (h 36 (a0.toNatClampNeg))) C dX11_step_72 (W.lt 36 (by decide)) (sh_36 W) p4 rfl ?_
          exact hR _ _ dX11_step_73
        have hP := hP.2 c3
        rw [if_neg c3] at hR
        rcases Classical.em (a1 = 1) with c4 | c4
        · have hP := hP.1 c4
          rw [if_pos c4] at hR
          refine j_tableIn (tgt := 74) (off := 48) C dX11_step_26 (by rw [c4]; decide) (by rw [c4]; decide) (by rw [c4]; decide) (by decide) ?_
          refine j_aload_n C dX11_step_74 rfl rfl ?_
          refine gCRX11_34 C dX11_step_75 (W.lt 0 (by decide)) (sh_0 W) rfl ?_
          refine gCRX11_157 C dX11_step_78 (W.lt 35 (by decide)) (sh_35 W) rfl ?_
          refine j_iload_n C dX11_step_81 rfl rfl ?_
          obtain ⟨p4, hP⟩ := hP
          refine j_iald (k := 37) (v := (h 37 (a0.toNatClampNeg))) C dX11_step_82 (W.lt 37 (by decide)) (sh_37 W) p4 rfl ?_
          exact hR _ _ dX11_step_83
        have hP := hP.2 c4
        rw [if_neg c4] at hR
        rcases Classical.em (a1 = 2) with c5 | c5
        · have hP := hP.1 c5
          rw [if_pos c5] at hR
          refine j_tableIn (tgt := 84) (off := 58) C dX11_step_26 (by rw [c5]; decide) (by rw [c5]; decide) (by rw [c5]; decide) (by decide) ?_
          refine j_aload_n C dX11_step_84 rfl rfl ?_
          refine gCRX11_34 C dX11_step_85 (W.lt 0 (by decide)) (sh_0 W) rfl ?_
          refine gCRX11_160 C dX11_step_88 (W.lt 35 (by decide)) (sh_35 W) rfl ?_
          refine j_iload_n C dX11_step_91 rfl rfl ?_
          obtain ⟨p4, hP⟩ := hP
          refine j_iald (k := 38) (v := (h 38 (a0.toNatClampNeg))) C dX11_step_92 (W.lt 38 (by decide)) (sh_38 W) p4 rfl ?_
          exact hR _ _ dX11_step_93
        have hP := hP.2 c5
        rw [if_neg c5] at hR
        rcases Classical.em (a1 = 3) with c6 | c6
        · have hP := hP.1 c6
          rw [if_pos c6] at hR
          refine j_tableIn (tgt := 94) (off := 68) C dX11_step_26 (by rw [c6]; decide) (by rw [c6]; decide) (by rw [c6]; decide) (by decide) ?_
          refine j_aload_n C dX11_step_94 rfl rfl ?_
          refine gCRX11_34 C dX11_step_95 (W.lt 0 (by decide)) (sh_0 W) rfl ?_
          refine gCRX11_163 C dX11_step_98 (W.lt 35 (by decide)) (sh_35 W) rfl ?_
          refine j_iload_n C dX11_step_101 rfl rfl ?_
          obtain ⟨p4, hP⟩ := hP
          refine j_iald (k := 39) (v := (h 39 (a0.toNatClampNeg))) C dX11_step_102 (W.lt 39 (by decide)) (sh_39 W) p4 rfl ?_
          exact hR _ _ dX11_step_103
        have hP := hP.2 c6
        rw [if_neg c6] at hR
        rcases Classical.em (a1 = 4) with c7 | c7
        · have hP := hP.1 c7
          rw [if_pos c7] at hR
          refine j_tableIn (tgt := 104) (off := 78) C dX11_step_26 (by rw [c7]; decide) (by rw [c7]; decide) (by rw [c7]; decide) (by decide) ?_
          refine j_aload_n C dX11_step_104 rfl rfl ?_
          refine gCRX11_34 C dX11_step_105 (W.lt 0 (by decide)) (sh_0 W) rfl ?_
          refine gCRX11_166 C dX11_step_108 (W.lt 35 (by decide)) (sh_35 W) rfl ?_
          refine j_iload_n C dX11_step_111 rfl rfl ?_
          obtain ⟨p4, hP⟩ := hP
          refine j_iald (k := 40) (v := (h 40 (a0.toNatClampNeg))) C dX11_step_112 (W.lt 40 (by decide)) (sh_40 W) p4 rfl ?_
          exact hR _ _ dX11_step_113
        have hP := hP.2 c7
        rw [if_neg c7] at hR
        rcases Classical.em (a1 = 5) with c8 | c8
        · have hP := hP.1 c8
          rw [if_pos c8] at hR
          refine j_tableIn (tgt := 114) (off := 88) C dX11_step_26 (by rw [c8]; decide) (by rw [c8]; decide) (by rw [c8]; decide) (by decide) ?_
          refine j_aload_n C dX11_step_114 rfl rfl ?_
          refine gCRX11_34 C dX11_step_115 (W.lt 0 (by decide)) (sh_0 W) rfl ?_
          refine gCRX11_169 C dX11_step_118 (W.lt 35 (by decide)) (sh_35 W) rfl ?_
          refine j_iload_n C dX11_step_121 rfl rfl ?_
          obtain ⟨p4, hP⟩ := hP
          refine j_iald (k := 43) (v := (h 43 (a0.toNatClampNeg))) C dX11_step_122 (W.lt 43 (by decide)) (sh_43 W) p4 rfl ?_
          exact hR _ _ dX11_step_123
        have hP := hP.2 c8
        rw [if_neg c8] at hR
        refine j_tableOut (tgt := 124) C dX11_step_26 (sw_out (fun v h1 h2 e => by rcases (show v = 0 ∨ v = 1 ∨ v = 2 ∨ v = 3 ∨ v = 4 ∨ v = 5 by omega) with z | z | z | z | z | z <;> rw [z] at e <;> first | exact c3 (e.trans (by decide)) | exact c4 (e.trans (by decide)) | exact c5 (e.trans (by decide)) | exact c6 (e.trans (by decide)) | exact c7 (e.trans (by decide)) | exact c8 (e.trans (by decide)))) (by decide) ?_
        refine j_iconst (v := (-1)) C dX11_step_124 (by decide) ?_
        exact hR _ _ dX11_step_125
      · have hP := hP.2 c2
        rw [if_neg c2] at hR
        refine j_iconst (v := (-1)) C dX11_step_23 (by decide) ?_
        exact hR _ _ dX11_step_24
theorem MX11_step {l0 : Launch} {Y : fj_Y} {ad : Nat → Nat} {n : Nat} {S : ph_S} {pr : Nat} (W : WS pr n S) (a0 : Int32) (a1 : Int32) (h : ph_H) (hP : PX11_step a0 a1 h) : MI l0 yX11_step cX11_step 3 (some .int) ({ frames := 0, cells := 0, slots := 0, locals := 0 } : Room) Y ad n S h [.ref (ad 0), .int a0, .int a1] (fun r S' h' => S' = S ∧ h' = h ∧ r = FX11_step a0 a1 h) := met_i (by decide) (Nat.le_of_ble_eq_true rfl) (fun _ _ _ _ => rfl) (fun X C K => j_vl (tX11_step W C a0 a1 h hP (fun pc lv hd => K _ _ _ ⟨rfl, rfl, rfl⟩ pc lv hd)) ⟨rfl, rfl, rfl, trivial⟩)
