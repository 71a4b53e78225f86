-- X4_countRaces
def FX4_countRaces_36 (L19 : Int32 → Int32 → Int32 → ph_H → Int32) (x1 : Int32) (x2 : Int32) (x3 : Int32) (h : ph_H) : Int32 := L19 x1 x2 (x3 + 1) h
def PX4_countRaces_36 (LP19 : Int32 → Int32 → Int32 → ph_H → Prop) (x1 : Int32) (x2 : Int32) (x3 : Int32) (h : ph_H) : Prop := LP19 x1 x2 (x3 + 1) h
set_option maxRecDepth 100000 in
set_option maxHeartbeats 4000000 in
theorem tX4_countRaces_36 {X : fj_X} {Y : fj_Y} {l0 : Launch} {ad : Nat → Nat} {n : Nat} {S : ph_S} {pr : Nat} (W : WS pr n S) (C : FC X Y l0 cX4_countRaces 4 RX4 ({ frames := 2, cells := 0, slots := 0, locals := 45 } : Room) 0 0 (some .int)) (h : ph_H) (L19 : Int32 → Int32 → Int32 → ph_H → Int32) (LP19 : Int32 → Int32 → Int32 → ph_H → Prop) (hL19 : ∀ (x1 : Int32) (x2 : Int32) (x3 : Int32), LP19 x1 x2 x3 h → RETp X Y ad n S h cX4_countRaces (L19 x1 x2 x3 h) → FJ X Y ad n S h 19 [(0, .ref (ad 47)), (1, .int x1), (2, .int x2), (3, .int x3)] []) (x1 : Int32) (x2 : Int32) (x3 : Int32) (hP : PX4_countRaces_36 LP19 x1 x2 x3 h) (hR : RETp X Y ad n S h cX4_countRaces (FX4_countRaces_36 L19 x1 x2 x3 h)) : FJ X Y ad n S h 36 [(0, .ref (ad 47)), (1, .int x1), (2, .int x2), (3, .int x3)] [] := by
  unfold PX4_countRaces_36 at hP
  unfold FX4_countRaces_36 at hR
  refine j_iinc (v := (x3 + 1)) C dX4_countRaces_36 rfl rfl (by decide) rfl ?_
  refine j_goto (tgt := 19) C dX4_countRaces_39 (by decide) ?_
  exact j_vl (hL19 x1 x2 (x3 + 1) hP hR) ⟨rfl, rfl, rfl, rfl, trivial⟩
def FX4_countRaces_19  : Nat → Int32 → Int32 → Int32 → ph_H → Int32
  | 0, _, _, _, _ => 0
  | q + 1, x1, x2, x3, h => if x1 ≤ x3 then (x2) else (if (FX4_isRace x3 x1 h) = 0 then (FX4_countRaces_36 (FX4_countRaces_19  q) x1 x2 x3 h) else (FX4_countRaces_36 (FX4_countRaces_19  q) x1 (x2 + 1) x3 h))
def PX4_countRaces_19  : Nat → Int32 → Int32 → Int32 → ph_H → Prop
  | 0, _, _, _, _ => False
  | q + 1, x1, x2, x3, h => (x1 ≤ x3 → (True)) ∧ (¬ x1 ≤ x3 → ((PX4_isRace x3 x1 h) ∧ (((FX4_isRace x3 x1 h) = 0 → (PX4_countRaces_36 (PX4_countRaces_19  q) x1 x2 x3 h)) ∧ (¬ (FX4_isRace x3 x1 h) = 0 → (PX4_countRaces_36 (PX4_countRaces_19  q) x1 (x2 + 1) x3 h)))))
set_option maxRecDepth 100000 in
set_option maxHeartbeats 4000000 in
theorem tX4_countRaces_19 {X : fj_X} {Y : fj_Y} {l0 : Launch} {ad : Nat → Nat} {n : Nat} {S : ph_S} {pr : Nat} (W : WS pr n S) (C : FC X Y l0 cX4_countRaces 4 RX4 ({ frames := 2, cells := 0, slots := 0, locals := 45 } : Room) 0 0 (some .int)) (h : ph_H) : ∀ (q : Nat) (x1 : Int32) (x2 : Int32) (x3 : Int32), PX4_countRaces_19  q x1 x2 x3 h → RETp X Y ad n S h cX4_countRaces (FX4_countRaces_19  q x1 x2 x3 h) → FJ X Y ad n S h 19 [(0, .ref (ad 47)), (1, .int x1), (2, .int x2), (3, .int x3)] [] := by
  intro q
  induction q with
  | zero =>
    intro x1 x2 x3 hP hR
    exact absurd hP id
  | succ q ih =>
    intro x1 x2 x3 hP hR
    unfold PX4_countRaces_19 at hP
    unfold FX4_countRaces_19 at hR
    refine j_iload_n C dX4_countRaces_19 rfl rfl ?_
    refine j_iload_n C dX4_countRaces_20 rfl rfl ?_
    refine j_icmp_ge (tgt := 42) C dX4_countRaces_21 (by decide) (fun c0 => ?_) (fun c0 => ?_)
    · have hP := hP.1 c0
      rw [if_pos c0] at hR
      refine j_iload_n C dX4_countRaces_42 rfl rfl ?_
      exact hR _ _ dX4_countRaces_43
    · have hP := hP.2 c0
      rw [if_neg c0] at hR
      refine j_aload_n C dX4_countRaces_24 rfl rfl ?_
      refine j_iload_n C dX4_countRaces_25 rfl rfl ?_
      refine j_iload_n C dX4_countRaces_26 rfl rfl ?_
      obtain ⟨p3, hP⟩ := hP
      refine j_callV C (MX4_isRace W x3 x1 h p3) dX4_countRaces_27 (CKX4_isRace (by decide)) ⟨rfl, rfl⟩ lk_RX4_90 in_X4_isRace se_X4_isRace (W.lt 47 (by decide)) (sh_47 W) rfl rfl (Nat.le_of_ble_eq_true rfl) ?_
      intro r S' h' hq
      obtain ⟨e1, hh, e3, hb5⟩ := hq
      rw [e1, hh, e3]
      refine j_if_eq (tgt := 36) C dX4_countRaces_30 (by decide) (fun c1 => ?_) (fun c1 => ?_)
      · have hP := hP.1 c1
        rw [if_pos c1] at hR
        exact j_vl (tX4_countRaces_36 W C h (FX4_countRaces_19  q) (PX4_countRaces_19  q) (ih) x1 x2 x3 hP hR) ⟨rfl, rfl, rfl, rfl, trivial⟩
      · have hP := hP.2 c1
        rw [if_neg c1] at hR
        refine j_iinc (v := (x2 + 1)) C dX4_countRaces_33 rfl rfl (by decide) rfl ?_
        exact j_vl (tX4_countRaces_36 W C h (FX4_countRaces_19  q) (PX4_countRaces_19  q) (ih) x1 (x2 + 1) x3 hP hR) ⟨rfl, rfl, rfl, rfl, trivial⟩
def FX4_countRaces (a0 : Int32) (h : ph_H) : Int32 := if (FX10_placeOf a0 h) = (-2) then (0) else (FX4_countRaces_19 2000 a0 0 1 h)
def PX4_countRaces (a0 : Int32) (h : ph_H) : Prop := (PX10_placeOf a0 h) ∧ (((FX10_placeOf a0 h) = (-2) → (True)) ∧ (¬ (FX10_placeOf a0 h) = (-2) → (PX4_countRaces_19 2000 a0 0 1 h)))
set_option maxRecDepth 100000 in
set_option maxHeartbeats 4000000 in
theorem tX4_countRaces {X : fj_X} {Y : fj_Y} {l0 : Launch} {ad : Nat → Nat} {n : Nat} {S : ph_S} {pr : Nat} (W : WS pr n S) (C : FC X Y l0 cX4_countRaces 4 RX4 ({ frames := 2, cells := 0, slots := 0, locals := 45 } : Room) 0 0 (some .int)) (a0 : Int32) (h : ph_H) (hP : PX4_countRaces a0 h) (hR : RETp X Y ad n S h cX4_countRaces (FX4_countRaces a0 h)) : FJ X Y ad n S h 0 [(0, .ref (ad 47)), (1, .int a0)] [] := by
  unfold PX4_countRaces at hP
  unfold FX4_countRaces at hR
  refine j_aload_n C dX4_countRaces_0 rfl rfl ?_
  refine gCRX4_24 C dX4_countRaces_1 (W.lt 47 (by decide)) (sh_47 W) rfl ?_
  refine j_iload_n C dX4_countRaces_4 rfl rfl ?_
  obtain ⟨p3, hP⟩ := hP
  refine j_callV C (MX10_placeOf W a0 h p3) dX4_countRaces_5 (CKX10_placeOf (by decide)) ⟨rfl, rfl⟩ lk_RX4_80 in_X10_placeOf se_X10_placeOf (W.lt 35 (by decide)) (sh_35 W) rfl rfl (Nat.le_of_ble_eq_true rfl) ?_
  intro r S' h' hq
  obtain ⟨e1, hh, e3⟩ := hq
  rw [e1, hh, e3]
  refine j_bipush (v := (-2)) C dX4_countRaces_8 (by decide) ?_
  refine j_icmp_ne (tgt := 15) C dX4_countRaces_10 (by decide) (fun c0 => ?_) (fun c0 => ?_)
  · have hP := hP.2 c0
    rw [if_neg c0] at hR
    refine j_iconst (v := 0) C dX4_countRaces_15 (by decide) ?_
    refine j_istore_n C dX4_countRaces_16 rfl (by decide) rfl ?_
    refine j_iconst (v := 1) C dX4_countRaces_17 (by decide) ?_
    refine j_istore_n C dX4_countRaces_18 rfl (by decide) rfl ?_
    exact j_vl (tX4_countRaces_19 W C h 2000 a0 0 1 hP hR) ⟨rfl, rfl, rfl, rfl, trivial⟩
  · have hP := hP.1 c0
    rw [if_pos c0] at hR
    refine j_iconst (v := 0) C dX4_countRaces_13 (by decide) ?_
    exact hR _ _ dX4_countRaces_14
theorem MX4_countRaces {l0 : Launch} {Y : fj_Y} {ad : Nat → Nat} {n : Nat} {S : ph_S} {pr : Nat} (W : WS pr n S) (a0 : Int32) (h : ph_H) (hP : PX4_countRaces a0 h) : MI l0 yX4_countRaces cX4_countRaces 4 (some .int) ({ frames := 2, cells := 0, slots := 0, locals := 45 } : Room) Y ad n S h [.ref (ad 47), .int a0] (fun r S' h' => S' = S ∧ h' = h ∧ r = FX4_countRaces a0 h) := met_i (by decide) (Nat.le_of_ble_eq_true rfl) (fun _ _ _ _ => rfl) (fun X C K => j_vl (tX4_countRaces W C a0 h hP (fun pc lv hd => K _ _ _ ⟨rfl, rfl, rfl⟩ pc lv hd)) ⟨rfl, rfl, trivial⟩)

-- X4_join_k49k49
def FX4_join_k49k49_3  : Nat → Int32 → Int32 → Int32 → ph_H → ph_H
  | 0, _, _, _, h => h
  | q + 1, x1, x3, x4, h => if 4 ≤ x4 then (h) else (FX4_join_k49k49_3  q x1 x3 (x4 + 1) (hs h 49 (x3 + x4).toNatClampNeg (if (h 49 ((x3 + x4).toNatClampNeg)) < (h 49 ((x1 + x4).toNatClampNeg)) then (h 49 ((x1 + x4).toNatClampNeg)) else (h 49 ((x3 + x4).toNatClampNeg)))))
def PX4_join_k49k49_3  : Nat → Int32 → Int32 → Int32 → ph_H → Prop
  | 0, _, _, _, _ => False
  | q + 1, x1, x3, x4, h => (4 ≤ x4 → (True)) ∧ (¬ 4 ≤ x4 → (vp_in (x3 + x4) 16 ∧ (vp_in (x1 + x4) 16 ∧ (vp_in (x3 + x4) 16 ∧ (PX4_join_k49k49_3  q x1 x3 (x4 + 1) (hs h 49 (x3 + x4).toNatClampNeg (if (h 49 ((x3 + x4).toNatClampNeg)) < (h 49 ((x1 + x4).toNatClampNeg)) then (h 49 ((x1 + x4).toNatClampNeg)) else (h 49 ((x3 + x4).toNatClampNeg)))))))))
set_option maxRecDepth 100000 in
set_option maxHeartbeats 4000000 in
theorem tX4_join_k49k49_3 {X : fj_X} {Y : fj_Y} {l0 : Launch} {ad : Nat → Nat} {n : Nat} {S : ph_S} {pr : Nat} (W : WS pr n S) (C : FC X Y l0 cX4_join 5 RX4 ({ frames := 1, cells := 0, slots := 0, locals := 26 } : Room) 0 0 none) : ∀ (q : Nat) (x1 : Int32) (x3 : Int32) (x4 : Int32) (h : ph_H), PX4_join_k49k49_3  q x1 x3 x4 h → RETv X Y ad n S cX4_join (FX4_join_k49k49_3  q x1 x3 x4 h) → FJ X Y ad n S h 3 [(0, .ref (ad 49)), (1, .int x1), (2, .ref (ad 49)), (3, .int x3), (4, .int x4)] [] := by
  intro q
  induction q with
  | zero =>
    intro x1 x3 x4 h hP hR
    exact absurd hP id
  | succ q ih =>
    intro x1 x3 x4 h hP hR
    unfold PX4_join_k49k49_3 at hP
    unfold FX4_join_k49k49_3 at hR
    refine j_iload C dX4_join_3 rfl ?_
    refine j_iconst (v := 4) C dX4_join_5 (by decide) ?_
    refine j_icmp_ge (tgt := 36) C dX4_join_6 (by decide) (fun c0 => ?_) (fun c0 => ?_)
    · have hP := hP.1 c0
      rw [if_pos c0] at hR
      exact hR _ _ dX4_join_36
    · have hP := hP.2 c0
      rw [if_neg c0] at hR
      refine j_aload_n C dX4_join_9 rfl rfl ?_
      refine j_iload_n C dX4_join_10 rfl rfl ?_
      refine j_iload C dX4_join_11 rfl ?_
      refine j_iadd C dX4_join_13 ?_
      refine j_aload_n C dX4_join_14 rfl rfl ?_
      refine j_iload_n C dX4_join_15 rfl rfl ?_
      refine j_iload C dX4_join_16 rfl ?_
      refine j_iadd C dX4_join_18 ?_
      obtain ⟨p8, hP⟩ := hP
      refine j_iald (k := 49) (v := (h 49 ((x3 + x4).toNatClampNeg))) C dX4_join_19 (W.lt 49 (by decide)) (sh_49 W) p8 rfl ?_
      refine j_aload_n C dX4_join_20 rfl rfl ?_
      refine j_iload_n C dX4_join_21 rfl rfl ?_
      refine j_iload C dX4_join_22 rfl ?_
      refine j_iadd C dX4_join_24 ?_
      obtain ⟨p14, hP⟩ := hP
      refine j_iald (k := 49) (v := (h 49 ((x1 + x4).toNatClampNeg))) C dX4_join_25 (W.lt 49 (by decide)) (sh_49 W) p14 rfl ?_
      refine j_mmax C dX4_join_26 lk_RX4_74 mx_s mx_i mx_c (by decide) (Nat.le_of_ble_eq_true rfl) ?_
      obtain ⟨p17, hP⟩ := hP
      refine j_iast (k := 49) C dX4_join_29 (W.lt 49 (by decide)) (sh_49 W) p17 ?_
      refine j_iinc (v := (x4 + 1)) C dX4_join_30 rfl rfl (by decide) rfl ?_
      refine j_goto (tgt := 3) C dX4_join_33 (by decide) ?_
      exact j_vl (ih x1 x3 (x4 + 1) (hs h 49 (x3 + x4).toNatClampNeg (if (h 49 ((x3 + x4).toNatClampNeg)) < (h 49 ((x1 + x4).toNatClampNeg)) then (h 49 ((x1 + x4).toNatClampNeg)) else (h 49 ((x3 + x4).toNatClampNeg)))) hP hR) ⟨rfl, rfl, rfl, rfl, rfl, trivial⟩
def FX4_join_k49k49 (a1 : Int32) (a3 : Int32) (h : ph_H) : ph_H := FX4_join_k49k49_3 2000 a1 a3 0 h
def PX4_join_k49k49 (a1 : Int32) (a3 : Int32) (h : ph_H) : Prop := PX4_join_k49k49_3 2000 a1 a3 0 h
set_option maxRecDepth 100000 in
set_option maxHeartbeats 4000000 in
theorem tX4_join_k49k49 {X : fj_X} {Y : fj_Y} {l0 : Launch} {ad : Nat → Nat} {n : Nat} {S : ph_S} {pr : Nat} (W : WS pr n S) (C : FC X Y l0 cX4_join 5 RX4 ({ frames := 1, cells := 0, slots := 0, locals := 26 } : Room) 0 0 none) (a1 : Int32) (a3 : Int32) (h : ph_H) (hP : PX4_join_k49k49 a1 a3 h) (hR : RETv X Y ad n S cX4_join (FX4_join_k49k49 a1 a3 h)) : FJ X Y ad n S h 0 [(0, .ref (ad 49)), (1, .int a1), (2, .ref (ad 49)), (3, .int a3)] [] := by
  unfold PX4_join_k49k49 at hP
  unfold FX4_join_k49k49 at hR
  refine j_iconst (v := 0) C dX4_join_0 (by decide) ?_
  refine j_istore C dX4_join_1 (by decide) rfl ?_
  exact j_vl (tX4_join_k49k49_3 W C 2000 a1 a3 0 h hP hR) ⟨rfl, rfl, rfl, rfl, rfl, trivial⟩
theorem MX4_join_k49k49 {l0 : Launch} {Y : fj_Y} {ad : Nat → Nat} {n : Nat} {S : ph_S} {pr : Nat} (W : WS pr n S) (a1 : Int32) (a3 : Int32) (h : ph_H) (hP : PX4_join_k49k49 a1 a3 h) : MV l0 yX4_join cX4_join 5 ({ frames := 1, cells := 0, slots := 0, locals := 26 } : Room) Y ad n S h [.ref (ad 49), .int a1, .ref (ad 49), .int a3] (fun S' h' => S' = S ∧ h' = FX4_join_k49k49 a1 a3 h) := met_v (by decide) (Nat.le_of_ble_eq_true rfl) (fun X C K => j_vl (tX4_join_k49k49 W C a1 a3 h hP (fun pc lv hd => K _ _ ⟨rfl, rfl⟩ pc lv hd)) ⟨rfl, rfl, rfl, rfl, trivial⟩)

-- X4_join_k49k50
def FX4_join_k49k50_3  : Nat → Int32 → Int32 → Int32 → ph_H → ph_H
  | 0, _, _, _, h => h
  | q + 1, x1, x3, x4, h => if 4 ≤ x4 then (h) else (FX4_join_k49k50_3  q x1 x3 (x4 + 1) (hs h 50 (x3 + x4).toNatClampNeg (if (h 50 ((x3 + x4).toNatClampNeg)) < (h 49 ((x1 + x4).toNatClampNeg)) then (h 49 ((x1 + x4).toNatClampNeg)) else (h 50 ((x3 + x4).toNatClampNeg)))))
def PX4_join_k49k50_3  : Nat → Int32 → Int32 → Int32 → ph_H → Prop
  | 0, _, _, _, _ => False
  | q + 1, x1, x3, x4, h => (4 ≤ x4 → (True)) ∧ (¬ 4 ≤ x4 → (vp_in (x3 + x4) 48 ∧ (vp_in (x1 + x4) 16 ∧ (vp_in (x3 + x4) 48 ∧ (PX4_join_k49k50_3  q x1 x3 (x4 + 1) (hs h 50 (x3 + x4).toNatClampNeg (if (h 50 ((x3 + x4).toNatClampNeg)) < (h 49 ((x1 + x4).toNatClampNeg)) then (h 49 ((x1 + x4).toNatClampNeg)) else (h 50 ((x3 + x4).toNatClampNeg)))))))))
set_option maxRecDepth 100000 in
set_option maxHeartbeats 4000000 in
theorem tX4_join_k49k50_3 {X : fj_X} {Y : fj_Y} {l0 : Launch} {ad : Nat → Nat} {n : Nat} {S : ph_S} {pr : Nat} (W : WS pr n S) (C : FC X Y l0 cX4_join 5 RX4 ({ frames := 1, cells := 0, slots := 0, locals := 26 } : Room) 0 0 none) : ∀ (q : Nat) (x1 : Int32) (x3 : Int32) (x4 : Int32) (h : ph_H), PX4_join_k49k50_3  q x1 x3 x4 h → RETv X Y ad n S cX4_join (FX4_join_k49k50_3  q x1 x3 x4 h) → FJ X Y ad n S h 3 [(0, .ref (ad 49)), (1, .int x1), (2, .ref (ad 50)), (3, .int x3), (4, .int x4)] [] := by
  intro q
  induction q with
  | zero =>
    intro x1 x3 x4 h hP hR
    exact absurd hP id
  | succ q ih =>
    intro x1 x3 x4 h hP hR
    unfold PX4_join_k49k50_3 at hP
    unfold FX4_join_k49k50_3 at hR
    refine j_iload C dX4_join_3 rfl ?_
    refine j_iconst (v := 4) C dX4_join_5 (by decide) ?_
    refine j_icmp_ge (tgt := 36) C dX4_join_6 (by decide) (fun c0 => ?_) (fun c0 => ?_)
    · have hP := hP.1 c0
      rw [if_pos c0] at hR
      exact hR _ _ dX4_join_36
    · have hP := hP.2 c0
      rw [if_neg c0] at hR
      refine j_aload_n C dX4_join_9 rfl rfl ?_
      refine j_iload_n C dX4_join_10 rfl rfl ?_
      refine j_iload C dX4_join_11 rfl ?_
      refine j_iadd C dX4_join_13 ?_
      refine j_aload_n C dX4_join_14 rfl rfl ?_
      refine j_iload_n C dX4_join_15 rfl rfl ?_
      refine j_iload C dX4_join_16 rfl ?_
      refine j_iadd C dX4_join_18 ?_
      obtain ⟨p8, hP⟩ := hP
      refine j_iald (k := 50) (v := (h 50 ((x3 + x4).toNatClampNeg))) C dX4_join_19 (W.lt 50 (by decide)) (sh_50 W) p8 rfl ?_
      refine j_aload_n C dX4_join_20 rfl rfl ?_
      refine j_iload_n C dX4_join_21 rfl rfl ?_
      refine j_iload C dX4_join_22 rfl ?_
      refine j_iadd C dX4_join_24 ?_
      obtain ⟨p14, hP⟩ := hP
      refine j_iald (k := 49) (v := (h 49 ((x1 + x4).toNatClampNeg))) C dX4_join_25 (W.lt 49 (by decide)) (sh_49 W) p14 rfl ?_
      refine j_mmax C dX4_join_26 lk_RX4_74 mx_s mx_i mx_c (by decide) (Nat.le_of_ble_eq_true rfl) ?_
      obtain ⟨p17, hP⟩ := hP
      refine j_iast (k := 50) C dX4_join_29 (W.lt 50 (by decide)) (sh_50 W) p17 ?_
      refine j_iinc (v := (x4 + 1)) C dX4_join_30 rfl rfl (by decide) rfl ?_
      refine j_goto (tgt := 3) C dX4_join_33 (by decide) ?_
      exact j_vl (ih x1 x3 (x4 + 1) (hs h 50 (x3 + x4).toNatClampNeg (if (h 50 ((x3 + x4).toNatClampNeg)) < (h 49 ((x1 + x4).toNatClampNeg)) then (h 49 ((x1 + x4).toNatClampNeg)) else (h 50 ((x3 + x4).toNatClampNeg)))) hP hR) ⟨rfl, rfl, rfl, rfl, rfl, trivial⟩
def FX4_join_k49k50 (a1 : Int32) (a3 : Int32) (h : ph_H) : ph_H := FX4_join_k49k50_3 2000 a1 a3 0 h
def PX4_join_k49k50 (a1 : Int32) (a3 : Int32) (h : ph_H) : Prop := PX4_join_k49k50_3 2000 a1 a3 0 h
set_option maxRecDepth 100000 in
set_option maxHeartbeats 4000000 in
theorem tX4_join_k49k50 {X : fj_X} {Y : fj_Y} {l0 : Launch} {ad : Nat → Nat} {n : Nat} {S : ph_S} {pr : Nat} (W : WS pr n S) (C : FC X Y l0 cX4_join 5 RX4 ({ frames := 1, cells := 0, slots := 0, locals := 26 } : Room) 0 0 none) (a1 : Int32) (a3 : Int32) (h : ph_H) (hP : PX4_join_k49k50 a1 a3 h) (hR : RETv X Y ad n S cX4_join (FX4_join_k49k50 a1 a3 h)) : FJ X Y ad n S h 0 [(0, .ref (ad 49)), (1, .int a1), (2, .ref (ad 50)), (3, .int a3)] [] := by
  unfold PX4_join_k49k50 at hP
  unfold FX4_join_k49k50 at hR
  refine j_iconst (v := 0) C dX4_join_0 (by decide) ?_
  refine j_istore C dX4_join_1 (by decide) rfl ?_
  exact j_vl (tX4_join_k49k50_3 W C 2000 a1 a3 0 h hP hR) ⟨rfl, rfl, rfl, rfl, rfl, trivial⟩
theorem MX4_join_k49k50 {l0 : Launch} {Y : fj_Y} {ad : Nat → Nat} {n : Nat} {S : ph_S} {pr : Nat} (W : WS pr n S) (a1 : Int32) (a3 : Int32) (h : ph_H) (hP : PX4_join_k49k50 a1 a3 h) : MV l0 yX4_join cX4_join 5 ({ frames := 1, cells := 0, slots := 0, locals := 26 } : Room) Y ad n S h [.ref (ad 49), .int a1, .ref (ad 50), .int a3] (fun S' h' => S' = S ∧ h' = FX4_join_k49k50 a1 a3 h) := met_v (by decide) (Nat.le_of_ble_eq_true rfl) (fun X C K => j_vl (tX4_join_k49k50 W C a1 a3 h hP (fun pc lv hd => K _ _ ⟨rfl, rfl⟩ pc lv hd)) ⟨rfl, rfl, rfl, rfl, trivial⟩)

-- X4_join_k50k49
def FX4_join_k50k49_3  : Nat → Int32 → Int32 → Int32 → ph_H → ph_H
  | 0, _, _, _, h => h
  | q + 1, x1, x3, x4, h => if 4 ≤ x4 then (h) else (FX4_join_k50k49_3  q x1 x3 (x4 + 1) (hs h 49 (x3 + x4).toNatClampNeg (if (h 49 ((x3 + x4).toNatClampNeg)) < (h 50 ((x1 + x4).toNatClampNeg)) then (h 50 ((x1 + x4).toNatClampNeg)) else (h 49 ((x3 + x4).toNatClampNeg)))))
def PX4_join_k50k49_3  : Nat → Int32 → Int32 → Int32 → ph_H → Prop
  | 0, _, _, _, _ => False
  | q + 1, x1, x3, x4, h => (4 ≤ x4 → (True)) ∧ (¬ 4 ≤ x4 → (vp_in (x3 + x4) 16 ∧ (vp_in (x1 + x4) 48 ∧ (vp_in (x3 + x4) 16 ∧ (PX4_join_k50k49_3  q x1 x3 (x4 + 1) (hs h 49 (x3 + x4).toNatClampNeg (if (h 49 ((x3 + x4).toNatClampNeg)) < (h 50 ((x1 + x4).toNatClampNeg)) then (h 50 ((x1 + x4).toNatClampNeg)) else (h 49 ((x3 + x4).toNatClampNeg)))))))))
set_option maxRecDepth 100000 in
set_option maxHeartbeats 4000000 in
theorem tX4_join_k50k49_3 {X : fj_X} {Y : fj_Y} {l0 : Launch} {ad : Nat → Nat} {n : Nat} {S : ph_S} {pr : Nat} (W : WS pr n S) (C : FC X Y l0 cX4_join 5 RX4 ({ frames := 1, cells := 0, slots := 0, locals := 26 } : Room) 0 0 none) : ∀ (q : Nat) (x1 : Int32) (x3 : Int32) (x4 : Int32) (h : ph_H), PX4_join_k50k49_3  q x1 x3 x4 h → RETv X Y ad n S cX4_join (FX4_join_k50k49_3  q x1 x3 x4 h) → FJ X Y ad n S h 3 [(0, .ref (ad 50)), (1, .int x1), (2, .ref (ad 49)), (3, .int x3), (4, .int x4)] [] := by
  intro q
  induction q with
  | zero =>
    intro x1 x3 x4 h hP hR
    exact absurd hP id
  | succ q ih =>
    intro x1 x3 x4 h hP hR
    unfold PX4_join_k50k49_3 at hP
    unfold FX4_join_k50k49_3 at hR
    refine j_iload C dX4_join_3 rfl ?_
    refine j_iconst (v := 4) C dX4_join_5 (by decide) ?_
    refine j_icmp_ge (tgt := 36) C dX4_join_6 (by decide) (fun c0 => ?_) (fun c0 => ?_)
    · have hP := hP.1 c0
      rw [if_pos c0] at hR
      exact hR _ _ dX4_join_36
    · have hP := hP.2 c0
      rw [if_neg c0] at hR
      refine j_aload_n C dX4_join_9 rfl rfl ?_
      refine j_iload_n C dX4_join_10 rfl rfl ?_
      refine j_iload C dX4_join_11 rfl ?_
      refine j_iadd C dX4_join_13 ?_
      refine j_aload_n C dX4_join_14 rfl rfl ?_
      refine j_iload_n C dX4_join_15 rfl rfl ?_
      refine j_iload C dX4_join_16 rfl ?_
      refine j_iadd C dX4_join_18 ?_
      obtain ⟨p8, hP⟩ := hP
      refine j_iald (k := 49) (v := (h 49 ((x3 + x4).toNatClampNeg))) C dX4_join_19 (W.lt 49 (by decide)) (sh_49 W) p8 rfl ?_
      refine j_aload_n C dX4_join_20 rfl rfl ?_
      refine j_iload_n C dX4_join_21 rfl rfl ?_
      refine j_iload C dX4_join_22 rfl ?_
      refine j_iadd C dX4_join_24 ?_
      obtain ⟨p14, hP⟩ := hP
      refine j_iald (k := 50) (v := (h 50 ((x1 + x4).toNatClampNeg))) C dX4_join_25 (W.lt 50 (by decide)) (sh_50 W) p14 rfl ?_
      refine j_mmax C dX4_join_26 lk_RX4_74 mx_s mx_i mx_c (by decide) (Nat.le_of_ble_eq_true rfl) ?_
      obtain ⟨p17, hP⟩ := hP
      refine j_iast (k := 49) C dX4_join_29 (W.lt 49 (by decide)) (sh_49 W) p17 ?_
      refine j_iinc (v := (x4 + 1)) C dX4_join_30 rfl rfl (by decide) rfl ?_
      refine j_goto (tgt := 3) C dX4_join_33 (by decide) ?_
      exact j_vl (ih x1 x3 (x4 + 1) (hs h 49 (x3 + x4).toNatClampNeg (if (h 49 ((x3 + x4).toNatClampNeg)) < (h 50 ((x1 + x4).toNatClampNeg)) then (h 50 ((x1 + x4).toNatClampNeg)) else (h 49 ((x3 + x4).toNatClampNeg)))) hP hR) ⟨rfl, rfl, rfl, rfl, rfl, trivial⟩
def FX4_join_k50k49 (a1 : Int32) (a3 : Int32) (h : ph_H) : ph_H := FX4_join_k50k49_3 2000 a1 a3 0 h
def PX4_join_k50k49 (a1 : Int32) (a3 : Int32) (h : ph_H) : Prop := PX4_join_k50k49_3 2000 a1 a3 0 h
set_option maxRecDepth 100000 in
set_option maxHeartbeats 4000000 in
theorem tX4_join_k50k49 {X : fj_X} {Y : fj_Y} {l0 : Launch} {ad : Nat → Nat} {n : Nat} {S : ph_S} {pr : Nat} (W : WS pr n S) (C : FC X Y l0 cX4_join 5 RX4 ({ frames := 1, cells := 0, slots := 0, locals := 26 } : Room) 0 0 none) (a1 : Int32) (a3 : Int32) (h : ph_H) (hP : PX4_join_k50k49 a1 a3 h) (hR : RETv X Y ad n S cX4_join (FX4_join_k50k49 a1 a3 h)) : FJ X Y ad n S h 0 [(0, .ref (ad 50)), (1, .int a1), (2, .ref (ad 49)), (3, .int a3)] [] := by
  unfold PX4_join_k50k49 at hP
  unfold FX4_join_k50k49 at hR
  refine j_iconst (v := 0) C dX4_join_0 (by decide) ?_
  refine j_istore C dX4_join_1 (by decide) rfl ?_
  exact j_vl (tX4_join_k50k49_3 W C 2000 a1 a3 0 h hP hR) ⟨rfl, rfl, rfl, rfl, rfl, trivial⟩
theorem MX4_join_k50k49 {l0 : Launch} {Y : fj_Y} {ad : Nat → Nat} {n : Nat} {S : ph_S} {pr : Nat} (W : WS pr n S) (a1 : Int32) (a3 : Int32) (h : ph_H) (hP : PX4_join_k50k49 a1 a3 h) : MV l0 yX4_join cX4_join 5 ({ frames := 1, cells := 0, slots := 0, locals := 26 } : Room) Y ad n S h [.ref (ad 50), .int a1, .ref (ad 49), .int a3] (fun S' h' => S' = S ∧ h' = FX4_join_k50k49 a1 a3 h) := met_v (by decide) (Nat.le_of_ble_eq_true rfl) (fun X C K => j_vl (tX4_join_k50k49 W C a1 a3 h hP (fun pc lv hd => K _ _ ⟨rfl, rfl⟩ pc lv hd)) ⟨rfl, rfl, rfl, rfl, trivial⟩)

-- X4_learn
def FX4_learn_125  (x1 : Int32) (x2 : Int32) (h : ph_H) : ph_H := (hc h 49 48 x2 (x1 * 4) 4)
def PX4_learn_125  (x1 : Int32) (x2 : Int32) (h : ph_H) : Prop := cpok x2 (x1 * 4) 4 16 1204 ∧ (True)
set_option maxRecDepth 100000 in
set_option maxHeartbeats 4000000 in
theorem tX4_learn_125 {X : fj_X} {Y : fj_Y} {l0 : Launch} {ad : Nat → Nat} {n : Nat} {S : ph_S} {pr : Nat} (W : WS pr n S) (C : FC X Y l0 cX4_learn 4 RX4 ({ frames := 2, cells := 0, slots := 0, locals := 50 } : Room) 0 0 none) (x1 : Int32) (x2 : Int32) (h : ph_H) (hP : PX4_learn_125  x1 x2 h) (hR : RETv X Y ad n S cX4_learn (FX4_learn_125  x1 x2 h)) : FJ X Y ad n S h 125 [(0, .ref (ad 47)), (1, .int x1), (2, .int x2)] [] := by
  unfold PX4_learn_125 at hP
  unfold FX4_learn_125 at hR
  refine j_aload_n C dX4_learn_125 rfl rfl ?_
  refine gCRX4_15 C dX4_learn_126 (W.lt 47 (by decide)) (sh_47 W) rfl ?_
  refine j_iload_n C dX4_learn_129 rfl rfl ?_
  refine j_aload_n C dX4_learn_130 rfl rfl ?_
  refine gCRX4_9 C dX4_learn_131 (W.lt 47 (by decide)) (sh_47 W) rfl ?_
  refine j_iload_n C dX4_learn_134 rfl rfl ?_
  refine j_iconst (v := 4) C dX4_learn_135 (by decide) ?_
  refine j_imul C dX4_learn_136 ?_
  refine j_iconst (v := 4) C dX4_learn_137 (by decide) ?_
  obtain ⟨p9, hP⟩ := hP
  refine j_copy (k0 := 49) (k1 := 48) C dX4_learn_138 lk_RX4_68 ac_n ac_s ac_i (W.lt 49 (by decide)) (sh_49 W) (W.lt 48 (by decide)) (sh_48 W) p9 (by decide) (Nat.le_of_ble_eq_true rfl) ?_
  exact hR _ _ dX4_learn_141
def FX4_learn_67  (x1 : Int32) (x2 : Int32) (h : ph_H) : ph_H := FX4_learn_125  x1 x2 h
def PX4_learn_67  (x1 : Int32) (x2 : Int32) (h : ph_H) : Prop := PX4_learn_125  x1 x2 h
set_option maxRecDepth 100000 in
set_option maxHeartbeats 4000000 in
theorem tX4_learn_67 {X : fj_X} {Y : fj_Y} {l0 : Launch} {ad : Nat → Nat} {n : Nat} {S : ph_S} {pr : Nat} (W : WS pr n S) (C : FC X Y l0 cX4_learn 4 RX4 ({ frames := 2, cells := 0, slots := 0, locals := 50 } : Room) 0 0 none) (x1 : Int32) (x2 : Int32) (h : ph_H) (hP : PX4_learn_67  x1 x2 h) (hR : RETv X Y ad n S cX4_learn (FX4_learn_67  x1 x2 h)) : FJ X Y ad n S h 67 [(0, .ref (ad 47)), (1, .int x1), (2, .int x2)] [] := by
  unfold PX4_learn_67 at hP
  unfold FX4_learn_67 at hR
  refine j_goto (tgt := 125) C dX4_learn_67 (by decide) ?_
  exact j_vl (tX4_learn_125 W C  x1 x2 h hP hR) ⟨rfl, rfl, rfl, trivial⟩
def FX4_learn_96  (x1 : Int32) (x2 : Int32) (h : ph_H) : ph_H := FX4_learn_125  x1 x2 h
def PX4_learn_96  (x1 : Int32) (x2 : Int32) (h : ph_H) : Prop := PX4_learn_125  x1 x2 h
set_option maxRecDepth 100000 in
set_option maxHeartbeats 4000000 in
theorem tX4_learn_96 {X : fj_X} {Y : fj_Y} {l0 : Launch} {ad : Nat → Nat} {n : Nat} {S : ph_S} {pr : Nat} (W : WS pr n S) (C : FC X Y l0 cX4_learn 4 RX4 ({ frames := 2, cells := 0, slots := 0, locals := 50 } : Room) 0 0 none) (x1 : Int32) (x2 : Int32) (h : ph_H) (hP : PX4_learn_96  x1 x2 h) (hR : RETv X Y ad n S cX4_learn (FX4_learn_96  x1 x2 h)) : FJ X Y ad n S h 96 [(0, .ref (ad 47)), (1, .int x1), (2, .int x2)] [] := by
  unfold PX4_learn_96 at hP
  unfold FX4_learn_96 at hR
  refine j_goto (tgt := 125) C dX4_learn_96 (by decide) ?_
  exact j_vl (tX4_learn_125 W C  x1 x2 h hP hR) ⟨rfl, rfl, rfl, trivial⟩
def FX4_learn (a0 : Int32) (h : ph_H) : ph_H := if (h 43 (a0.toNatClampNeg)) = 1 then (FX4_learn_67  a0 ((h 36 (a0.toNatClampNeg)) * 4) (FX4_join_k50k49 ((h 44 (a0.toNatClampNeg)) * 4) ((h 36 (a0.toNatClampNeg)) * 4) (hs h 49 (((h 36 (a0.toNatClampNeg)) * 4) + (h 36 (a0.toNatClampNeg))).toNatClampNeg a0))) else (if (h 43 (a0.toNatClampNeg)) = 2 then (FX4_learn_96  a0 ((h 36 (a0.toNatClampNeg)) * 4) (FX4_join_k49k50 ((h 36 (a0.toNatClampNeg)) * 4) ((h 44 (a0.toNatClampNeg)) * 4) (hs h 49 (((h 36 (a0.toNatClampNeg)) * 4) + (h 36 (a0.toNatClampNeg))).toNatClampNeg a0))) else (if (h 43 (a0.toNatClampNeg)) = 4 then (FX4_learn_125  a0 ((h 36 (a0.toNatClampNeg)) * 4) (FX4_join_k49k49 ((h 36 (a0.toNatClampNeg)) * 4) ((h 44 (a0.toNatClampNeg)) * 4) (hs h 49 (((h 36 (a0.toNatClampNeg)) * 4) + (h 36 (a0.toNatClampNeg))).toNatClampNeg a0))) else (FX4_learn_125  a0 ((h 36 (a0.toNatClampNeg)) * 4) (hs h 49 (((h 36 (a0.toNatClampNeg)) * 4) + (h 36 (a0.toNatClampNeg))).toNatClampNeg a0))))
def PX4_learn (a0 : Int32) (h : ph_H) : Prop := vp_in a0 301 ∧ (vp_in a0 301 ∧ (vp_in a0 301 ∧ (vp_in (((h 36 (a0.toNatClampNeg)) * 4) + (h 36 (a0.toNatClampNeg))) 16 ∧ (vp_in a0 301 ∧ (((h 43 (a0.toNatClampNeg)) = 1 → ((PX4_join_k50k49 ((h 44 (a0.toNatClampNeg)) * 4) ((h 36 (a0.toNatClampNeg)) * 4) (hs h 49 (((h 36 (a0.toNatClampNeg)) * 4) + (h 36 (a0.toNatClampNeg))).toNatClampNeg a0)) ∧ (PX4_learn_67  a0 ((h 36 (a0.toNatClampNeg)) * 4) (FX4_join_k50k49 ((h 44 (a0.toNatClampNeg)) * 4) ((h 36 (a0.toNatClampNeg)) * 4) (hs h 49 (((h 36 (a0.toNatClampNeg)) * 4) + (h 36 (a0.toNatClampNeg))).toNatClampNeg a0))))) ∧ (¬ (h 43 (a0.toNatClampNeg)) = 1 → (vp_in a0 301 ∧ (((h 43 (a0.toNatClampNeg)) = 2 → ((PX4_join_k49k50 ((h 36 (a0.toNatClampNeg)) * 4) ((h 44 (a0.toNatClampNeg)) * 4) (hs h 49 (((h 36 (a0.toNatClampNeg)) * 4) + (h 36 (a0.toNatClampNeg))).toNatClampNeg a0)) ∧ (PX4_learn_96  a0 ((h 36 (a0.toNatClampNeg)) * 4) (FX4_join_k49k50 ((h 36 (a0.toNatClampNeg)) * 4) ((h 44 (a0.toNatClampNeg)) * 4) (hs h 49 (((h 36 (a0.toNatClampNeg)) * 4) + (h 36 (a0.toNatClampNeg))).toNatClampNeg a0))))) ∧ (¬ (h 43 (a0.toNatClampNeg)) = 2 → (vp_in a0 301 ∧ (((h 43 (a0.toNatClampNeg)) = 4 → ((PX4_join_k49k49 ((h 36 (a0.toNatClampNeg)) * 4) ((h 44 (a0.toNatClampNeg)) * 4) (hs h 49 (((h 36 (a0.toNatClampNeg)) * 4) + (h 36 (a0.toNatClampNeg))).toNatClampNeg a0)) ∧ (PX4_learn_125  a0 ((h 36 (a0.toNatClampNeg)) * 4) (FX4_join_k49k49 ((h 36 (a0.toNatClampNeg)) * 4) ((h 44 (a0.toNatClampNeg)) * 4) (hs h 49 (((h 36 (a0.toNatClampNeg)) * 4) + (h 36 (a0.toNatClampNeg))).toNatClampNeg a0))))) ∧ (¬ (h 43 (a0.toNatClampNeg)) = 4 → (PX4_learn_125  a0 ((h 36 (a0.toNatClampNeg)) * 4) (hs h 49 (((h 36 (a0.toNatClampNeg)) * 4) + (h 36 (a0.toNatClampNeg))).toNatClampNeg a0))))))))))))))
set_option maxRecDepth 100000 in
set_option maxHeartbeats 4000000 in
theorem tX4_learn {X : fj_X} {Y : fj_Y} {l0 : Launch} {ad : Nat → Nat} {n : Nat} {S : ph_S} {pr : Nat} (W : WS pr n S) (C : FC X Y l0 cX4_learn 4 RX4 ({ frames := 2, cells := 0, slots := 0, locals := 50 } : Room) 0 0 none) (a0 : Int32) (h : ph_H) (hP : PX4_learn a0 h) (hR : RETv X Y ad n S cX4_learn (FX4_learn a0 h)) : FJ X Y ad n S h 0 [(0, .ref (ad 47)), (1, .int a0)] [] := by
  unfold PX4_learn at hP
  unfold FX4_learn at hR
  refine j_aload_n C dX4_learn_0 rfl rfl ?_
  refine gCRX4_24 C dX4_learn_1 (W.lt 47 (by decide)) (sh_47 W) rfl ?_
  refine gCRX4_55 C dX4_learn_4 (W.lt 35 (by decide)) (sh_35 W) rfl ?_
  refine j_iload_n C dX4_learn_7 rfl rfl ?_
  obtain ⟨p4, hP⟩ := hP
  refine j_iald (k := 36) (v := (h 36 (a0.toNatClampNeg))) C dX4_learn_8 (W.lt 36 (by decide)) (sh_36 W) p4 rfl ?_
  refine j_iconst (v := 4) C dX4_learn_9 (by decide) ?_
  refine j_imul C dX4_learn_10 ?_
  refine j_istore_n C dX4_learn_11 rfl (by decide) rfl ?_
  refine j_aload_n C dX4_learn_12 rfl rfl ?_
  refine gCRX4_24 C dX4_learn_13 (W.lt 47 (by decide)) (sh_47 W) rfl ?_
  refine gCRX4_58 C dX4_learn_16 (W.lt 35 (by decide)) (sh_35 W) rfl ?_
  refine j_iload_n C dX4_learn_19 rfl rfl ?_
  obtain ⟨p13, hP⟩ := hP
  refine j_iald (k := 44) (v := (h 44 (a0.toNatClampNeg))) C dX4_learn_20 (W.lt 44 (by decide)) (sh_44 W) p13 rfl ?_
  refine j_iconst (v := 4) C dX4_learn_21 (by decide) ?_
  refine j_imul C dX4_learn_22 ?_
  refine j_istore_n C dX4_learn_23 rfl (by decide) rfl ?_
  refine j_aload_n C dX4_learn_24 rfl rfl ?_
  refine gCRX4_15 C dX4_learn_25 (W.lt 47 (by decide)) (sh_47 W) rfl ?_
  refine j_iload_n C dX4_learn_28 rfl rfl ?_
  refine j_aload_n C dX4_learn_29 rfl rfl ?_
  refine gCRX4_24 C dX4_learn_30 (W.lt 47 (by decide)) (sh_47 W) rfl ?_
  refine gCRX4_55 C dX4_learn_33 (W.lt 35 (by decide)) (sh_35 W) rfl ?_
  refine j_iload_n C dX4_learn_36 rfl rfl ?_
  obtain ⟨p25, hP⟩ := hP
  refine j_iald (k := 36) (v := (h 36 (a0.toNatClampNeg))) C dX4_learn_37 (W.lt 36 (by decide)) (sh_36 W) p25 rfl ?_
  refine j_iadd C dX4_learn_38 ?_
  refine j_iload_n C dX4_learn_39 rfl rfl ?_
  obtain ⟨p29, hP⟩ := hP
  refine j_iast (k := 49) C dX4_learn_40 (W.lt 49 (by decide)) (sh_49 W) p29 ?_
  refine j_aload_n C dX4_learn_41 rfl rfl ?_
  refine gCRX4_24 C dX4_learn_42 (W.lt 47 (by decide)) (sh_47 W) rfl ?_
  refine gCRX4_61 C dX4_learn_45 (W.lt 35 (by decide)) (sh_35 W) rfl ?_
  refine j_iload_n C dX4_learn_48 rfl rfl ?_
  obtain ⟨p35, hP⟩ := hP
  refine j_iald (k := 43) (v := (h 43 (a0.toNatClampNeg))) C dX4_learn_49 (W.lt 43 (by decide)) (sh_43 W) p35 (hz_k (by decide)) ?_
  refine j_iconst (v := 1) C dX4_learn_50 (by decide) ?_
  refine j_icmp_ne (tgt := 70) C dX4_learn_51 (by decide) (fun c0 => ?_) (fun c0 => ?_)
  · have hP := hP.2 c0
    rw [if_neg c0] at hR
    refine j_aload_n C dX4_learn_70 rfl rfl ?_
    refine gCRX4_24 C dX4_learn_71 (W.lt 47 (by decide)) (sh_47 W) rfl ?_
    refine gCRX4_61 C dX4_learn_74 (W.lt 35 (by decide)) (sh_35 W) rfl ?_
    refine j_iload_n C dX4_learn_77 rfl rfl ?_
    obtain ⟨p4, hP⟩ := hP
    refine j_iald (k := 43) (v := (h 43 (a0.toNatClampNeg))) C dX4_learn_78 (W.lt 43 (by decide)) (sh_43 W) p4 (hz_k (by decide)) ?_
    refine j_iconst (v := 2) C dX4_learn_79 (by decide) ?_
    refine j_icmp_ne (tgt := 99) C dX4_learn_80 (by decide) (fun c1 => ?_) (fun c1 => ?_)
    · have hP := hP.2 c1
      rw [if_neg c1] at hR
      refine j_aload_n C dX4_learn_99 rfl rfl ?_
      refine gCRX4_24 C dX4_learn_100 (W.lt 47 (by decide)) (sh_47 W) rfl ?_
      refine gCRX4_61 C dX4_learn_103 (W.lt 35 (by decide)) (sh_35 W) rfl ?_
      refine j_iload_n C dX4_learn_106 rfl rfl ?_
      obtain ⟨p4, hP⟩ := hP
      refine j_iald (k := 43) (v := (h 43 (a0.toNatClampNeg))) C dX4_learn_107 (W.lt 43 (by decide)) (sh_43 W) p4 (hz_k (by decide)) ?_
      refine j_iconst (v := 4) C dX4_learn_108 (by decide) ?_
      refine j_icmp_ne (tgt := 125) C dX4_learn_109 (by decide) (fun c2 => ?_) (fun c2 => ?_)
      · have hP := hP.2 c2
        rw [if_neg c2] at hR
        exact j_vl (tX4_learn_125 W C  a0 ((h 36 (a0.toNatClampNeg)) * 4) (hs h 49 (((h 36 (a0.toNatClampNeg)) * 4) + (h 36 (a0.toNatClampNeg))).toNatClampNeg a0) hP hR) ⟨rfl, rfl, rfl, trivial⟩
      · have hP := hP.1 c2
        rw [if_pos c2] at hR
        refine j_aload_n C dX4_learn_112 rfl rfl ?_
        refine gCRX4_15 C dX4_learn_113 (W.lt 47 (by decide)) (sh_47 W) rfl ?_
        refine j_iload_n C dX4_learn_116 rfl rfl ?_
        refine j_aload_n C dX4_learn_117 rfl rfl ?_
        refine gCRX4_15 C dX4_learn_118 (W.lt 47 (by decide)) (sh_47 W) rfl ?_
        refine j_iload_n C dX4_learn_121 rfl rfl ?_
        obtain ⟨p6, hP⟩ := hP
        refine j_callSv C (MX4_join_k49k49 W ((h 36 (a0.toNatClampNeg)) * 4) ((h 44 (a0.toNatClampNeg)) * 4) (hs h 49 (((h 36 (a0.toNatClampNeg)) * 4) + (h 36 (a0.toNatClampNeg))).toNatClampNeg a0) p6) dX4_learn_122 (CKX4_join (by decide)) ⟨rfl, rfl⟩ lk_RX4_64 st_X4_join rfl (Nat.le_of_ble_eq_true rfl) ?_
        intro S' h' hq
        obtain ⟨e1, e2⟩ := hq
        rw [e1, e2]
        exact j_vl (tX4_learn_125 W C  a0 ((h 36 (a0.toNatClampNeg)) * 4) (FX4_join_k49k49 ((h 36 (a0.toNatClampNeg)) * 4) ((h 44 (a0.toNatClampNeg)) * 4) (hs h 49 (((h 36 (a0.toNatClampNeg)) * 4) + (h 36 (a0.toNatClampNeg))).toNatClampNeg a0)) hP hR) ⟨rfl, rfl, rfl, trivial⟩
    · have hP := hP.1 c1
      rw [if_pos c1] at hR
      refine j_aload_n C dX4_learn_83 rfl rfl ?_
      refine gCRX4_15 C dX4_learn_84 (W.lt 47 (by decide)) (sh_47 W) rfl ?_
      refine j_iload_n C dX4_learn_87 rfl rfl ?_
      refine j_aload_n C dX4_learn_88 rfl rfl ?_
      refine gCRX4_18 C dX4_learn_89 (W.lt 47 (by decide)) (sh_47 W) rfl ?_
      refine j_iload_n C dX4_learn_92 rfl rfl ?_
      obtain ⟨p6, hP⟩ := hP
      refine j_callSv C (MX4_join_k49k50 W ((h 36 (a0.toNatClampNeg)) * 4) ((h 44 (a0.toNatClampNeg)) * 4) (hs h 49 (((h 36 (a0.toNatClampNeg)) * 4) + (h 36 (a0.toNatClampNeg))).toNatClampNeg a0) p6) dX4_learn_93 (CKX4_join (by decide)) ⟨rfl, rfl⟩ lk_RX4_64 st_X4_join rfl (Nat.le_of_ble_eq_true rfl) ?_
      intro S' h' hq
      obtain ⟨e1, e2⟩ := hq
      rw [e1, e2]
      exact j_vl (tX4_learn_96 W C  a0 ((h 36 (a0.toNatClampNeg)) * 4) (FX4_join_k49k50 ((h 36 (a0.toNatClampNeg)) * 4) ((h 44 (a0.toNatClampNeg)) * 4) (hs h 49 (((h 36 (a0.toNatClampNeg)) * 4) + (h 36 (a0.toNatClampNeg))).toNatClampNeg a0)) hP hR) ⟨rfl, rfl, rfl, trivial⟩
  · have hP := hP.1 c0
    rw [if_pos c0] at hR
    refine j_aload_n C dX4_learn_54 rfl rfl ?_
    refine gCRX4_18 C dX4_learn_55 (W.lt 47 (by decide)) (sh_47 W) rfl ?_
    refine j_iload_n C dX4_learn_58 rfl rfl ?_
    refine j_aload_n C dX4_learn_59 rfl rfl ?_
    refine gCRX4_15 C dX4_learn_60 (W.lt 47 (by decide)) (sh_47 W) rfl ?_
    refine j_iload_n C dX4_learn_63 rfl rfl ?_
    obtain ⟨p6, hP⟩ := hP
    refine j_callSv C (MX4_join_k50k49 W ((h 44 (a0.toNatClampNeg)) * 4) ((h 36 (a0.toNatClampNeg)) * 4) (hs h 49 (((h 36 (a0.toNatClampNeg)) * 4) + (h 36 (a0.toNatClampNeg))).toNatClampNeg a0) p6) dX4_learn_64 (CKX4_join (by decide)) ⟨rfl, rfl⟩ lk_RX4_64 st_X4_join rfl (Nat.le_of_ble_eq_true rfl) ?_
    intro S' h' hq
    obtain ⟨e1, e2⟩ := hq
    rw [e1, e2]
    exact j_vl (tX4_learn_67 W C  a0 ((h 36 (a0.toNatClampNeg)) * 4) (FX4_join_k50k49 ((h 44 (a0.toNatClampNeg)) * 4) ((h 36 (a0.toNatClampNeg)) * 4) (hs h 49 (((h 36 (a0.toNatClampNeg)) * 4) + (h 36 (a0.toNatClampNeg))).toNatClampNeg a0)) hP hR) ⟨rfl, rfl, rfl, trivial⟩
theorem MX4_learn {l0 : Launch} {Y : fj_Y} {ad : Nat → Nat} {n : Nat} {S : ph_S} {pr : Nat} (W : WS pr n S) (a0 : Int32) (h : ph_H) (hP : PX4_learn a0 h) : MV l0 yX4_learn cX4_learn 4 ({ frames := 2, cells := 0, slots := 0, locals := 50 } : Room) Y ad n S h [.ref (ad 47), .int a0] (fun S' h' => S' = S ∧ h' = FX4_learn a0 h) := met_v (by decide) (Nat.le_of_ble_eq_true rfl) (fun X C K => j_vl (tX4_learn W C a0 h hP (fun pc lv hd => K _ _ ⟨rfl, rfl⟩ pc lv hd)) ⟨rfl, rfl, trivial⟩)

-- X4_prepare
def FX4_prepare_47 (L31 : Int32 → ph_H → ph_H) (x1 : Int32) (h : ph_H) : ph_H := L31 (x1 + 1) (hs (hs h 51 x1.toNatClampNeg (FX4_countRaces x1 h)) 47 5 ((h 47 5) + ((hs h 51 x1.toNatClampNeg (FX4_countRaces x1 h)) 51 (x1.toNatClampNeg))))
def PX4_prepare_47 (LP31 : Int32 → ph_H → Prop) (x1 : Int32) (h : ph_H) : Prop := (PX4_countRaces x1 h) ∧ (vp_in x1 301 ∧ (vp_in x1 301 ∧ (LP31 (x1 + 1) (hs (hs h 51 x1.toNatClampNeg (FX4_countRaces x1 h)) 47 5 ((h 47 5) + ((hs h 51 x1.toNatClampNeg (FX4_countRaces x1 h)) 51 (x1.toNatClampNeg)))))))
set_option maxRecDepth 100000 in
set_option maxHeartbeats 4000000 in
theorem tX4_prepare_47 {X : fj_X} {Y : fj_Y} {l0 : Launch} {ad : Nat → Nat} {n : Nat} {S : ph_S} {pr : Nat} (W : WS pr n S) (C : FC X Y l0 cX4_prepare 2 RX4 ({ frames := 3, cells := 0, slots := 0, locals := 73 } : Room) 0 0 none) (L31 : Int32 → ph_H → ph_H) (LP31 : Int32 → ph_H → Prop) (hL31 : ∀ (x1 : Int32) (h : ph_H), LP31 x1 h → RETv X Y ad n S cX4_prepare (L31 x1 h) → FJ X Y ad n S h 31 [(0, .ref (ad 47)), (1, .int x1)] []) (x1 : Int32) (h : ph_H) (hP : PX4_prepare_47 LP31 x1 h) (hR : RETv X Y ad n S cX4_prepare (FX4_prepare_47 L31 x1 h)) : FJ X Y ad n S h 47 [(0, .ref (ad 47)), (1, .int x1)] [] := by
  unfold PX4_prepare_47 at hP
  unfold FX4_prepare_47 at hR
  refine j_aload_n C dX4_prepare_47 rfl rfl ?_
  refine gCRX4_21 C dX4_prepare_48 (W.lt 47 (by decide)) (sh_47 W) rfl ?_
  refine j_iload_n C dX4_prepare_51 rfl rfl ?_
  refine j_aload_n C dX4_prepare_52 rfl rfl ?_
  refine j_iload_n C dX4_prepare_53 rfl rfl ?_
  obtain ⟨p5, hP⟩ := hP
  refine j_callV C (MX4_countRaces W x1 h p5) dX4_prepare_54 (CKX4_countRaces (by decide)) ⟨rfl, rfl⟩ lk_RX4_51 in_X4_countRaces se_X4_countRaces (W.lt 47 (by decide)) (sh_47 W) rfl rfl (Nat.le_of_ble_eq_true rfl) ?_
  intro r S' h' hq
  obtain ⟨e1, hh, e3⟩ := hq
  rw [e1, hh, e3]
  obtain ⟨p10, hP⟩ := hP
  refine j_iast (k := 51) C dX4_prepare_57 (W.lt 51 (by decide)) (sh_51 W) p10 ?_
  refine j_aload_n C dX4_prepare_58 rfl rfl ?_
  refine j_dup C dX4_prepare_59 rfl ?_
  refine gCRX4_38 (v := (h 47 5)) C dX4_prepare_60 (W.lt 47 (by decide)) (sh_47 W) rfl (hz_k (by decide)) ?_
  refine j_aload_n C dX4_prepare_63 rfl rfl ?_
  refine gCRX4_21 C dX4_prepare_64 (W.lt 47 (by decide)) (sh_47 W) rfl ?_
  refine j_iload_n C dX4_prepare_67 rfl rfl ?_
  obtain ⟨p18, hP⟩ := hP
  refine j_iald (k := 51) (v := ((hs h 51 x1.toNatClampNeg (FX4_countRaces x1 h)) 51 (x1.toNatClampNeg))) C dX4_prepare_68 (W.lt 51 (by decide)) (sh_51 W) p18 rfl ?_
  refine j_iadd C dX4_prepare_69 ?_
  refine pCRX4_38 C dX4_prepare_70 (W.lt 47 (by decide)) (sh_47 W) rfl ?_
  refine j_iinc (v := (x1 + 1)) C dX4_prepare_73 rfl rfl (by decide) rfl ?_
  refine j_goto (tgt := 31) C dX4_prepare_76 (by decide) ?_
  exact j_vl (hL31 (x1 + 1) (hs (hs h 51 x1.toNatClampNeg (FX4_countRaces x1 h)) 47 5 ((h 47 5) + ((hs h 51 x1.toNatClampNeg (FX4_countRaces x1 h)) 51 (x1.toNatClampNeg)))) hP hR) ⟨rfl, rfl, trivial⟩
def FX4_prepare_31  : Nat → Int32 → ph_H → ph_H
  | 0, _, h => h
  | q + 1, x1, h => if (h 35 11) < x1 then ((hs h 47 6 1)) else (FX4_prepare_47 (FX4_prepare_31  q) x1 (FX4_learn x1 h))
def PX4_prepare_31  : Nat → Int32 → ph_H → Prop
  | 0, _, _ => False
  | q + 1, x1, h => ((h 35 11) < x1 → (True)) ∧ (¬ (h 35 11) < x1 → ((PX4_learn x1 h) ∧ (PX4_prepare_47 (PX4_prepare_31  q) x1 (FX4_learn x1 h))))
set_option maxRecDepth 100000 in
set_option maxHeartbeats 4000000 in
theorem tX4_prepare_31 {X : fj_X} {Y : fj_Y} {l0 : Launch} {ad : Nat → Nat} {n : Nat} {S : ph_S} {pr : Nat} (W : WS pr n S) (C : FC X Y l0 cX4_prepare 2 RX4 ({ frames := 3, cells := 0, slots := 0, locals := 73 } : Room) 0 0 none) : ∀ (q : Nat) (x1 : Int32) (h : ph_H), PX4_prepare_31  q x1 h → RETv X Y ad n S cX4_prepare (FX4_prepare_31  q x1 h) → FJ X Y ad n S h 31 [(0, .ref (ad 47)), (1, .int x1)] [] := by
  intro q
  induction q with
  | zero =>
    intro x1 h hP hR
    exact absurd hP id
  | succ q ih =>
    intro x1 h hP hR
    unfold PX4_prepare_31 at hP
    unfold FX4_prepare_31 at hR
    refine j_iload_n C dX4_prepare_31 rfl rfl ?_
    refine j_aload_n C dX4_prepare_32 rfl rfl ?_
    refine gCRX4_24 C dX4_prepare_33 (W.lt 47 (by decide)) (sh_47 W) rfl ?_
    refine gCRX4_42 (v := (h 35 11)) C dX4_prepare_36 (W.lt 35 (by decide)) (sh_35 W) rfl rfl ?_
    refine j_icmp_gt (tgt := 79) C dX4_prepare_39 (by decide) (fun c0 => ?_) (fun c0 => ?_)
    · have hP := hP.1 c0
      rw [if_pos c0] at hR
      refine j_aload_n C dX4_prepare_79 rfl rfl ?_
      refine j_iconst (v := 1) C dX4_prepare_80 (by decide) ?_
      refine pCRX4_28 C dX4_prepare_81 (W.lt 47 (by decide)) (sh_47 W) rfl bo_1 ?_
      exact hR _ _ dX4_prepare_84
    · have hP := hP.2 c0
      rw [if_neg c0] at hR
      refine j_aload_n C dX4_prepare_42 rfl rfl ?_
      refine j_iload_n C dX4_prepare_43 rfl rfl ?_
      obtain ⟨p2, hP⟩ := hP
      refine j_callVv C (MX4_learn W x1 h p2) dX4_prepare_44 (CKX4_learn (by decide)) ⟨rfl, rfl⟩ lk_RX4_47 in_X4_learn se_X4_learn (W.lt 47 (by decide)) (sh_47 W) rfl rfl (Nat.le_of_ble_eq_true rfl) ?_
      intro S' h' hq
      obtain ⟨e1, e2⟩ := hq
      rw [e1, e2]
      exact j_vl (tX4_prepare_47 W C (FX4_prepare_31  q) (PX4_prepare_31  q) (ih) x1 (FX4_learn x1 h) hP hR) ⟨rfl, rfl, trivial⟩
def FX4_prepare_24  (h : ph_H) : ph_H := FX4_prepare_31 2000 1 (hs h 47 5 0)
def PX4_prepare_24  (h : ph_H) : Prop := PX4_prepare_31 2000 1 (hs h 47 5 0)
set_option maxRecDepth 100000 in
set_option maxHeartbeats 4000000 in
theorem tX4_prepare_24 {X : fj_X} {Y : fj_Y} {l0 : Launch} {ad : Nat → Nat} {n : Nat} {S : ph_S} {pr : Nat} (W : WS pr n S) (C : FC X Y l0 cX4_prepare 2 RX4 ({ frames := 3, cells := 0, slots := 0, locals := 73 } : Room) 0 0 none) (h : ph_H) (hP : PX4_prepare_24  h) (hR : RETv X Y ad n S cX4_prepare (FX4_prepare_24  h)) : FJ X Y ad n S h 24 [(0, .ref (ad 47))] [] := by
  unfold PX4_prepare_24 at hP
  unfold FX4_prepare_24 at hR
  refine j_aload_n C dX4_prepare_24 rfl rfl ?_
  refine j_iconst (v := 0) C dX4_prepare_25 (by decide) ?_
  refine pCRX4_38 C dX4_prepare_26 (W.lt 47 (by decide)) (sh_47 W) rfl ?_
  refine j_iconst (v := 1) C dX4_prepare_29 (by decide) ?_
  refine j_istore_n C dX4_prepare_30 rfl (by decide) rfl ?_
  exact j_vl (tX4_prepare_31 W C 2000 1 (hs h 47 5 0) hP hR) ⟨rfl, rfl, trivial⟩
def FX4_prepare_16  (h : ph_H) : ph_H := FX4_prepare_24  (FJ7_fill_53178_k50 0 h)
def PX4_prepare_16  (h : ph_H) : Prop := (PJ7_fill_53178_k50 0 h) ∧ (PX4_prepare_24  (FJ7_fill_53178_k50 0 h))
set_option maxRecDepth 100000 in
set_option maxHeartbeats 4000000 in
theorem tX4_prepare_16 {X : fj_X} {Y : fj_Y} {l0 : Launch} {ad : Nat → Nat} {n : Nat} {S : ph_S} {pr : Nat} (W : WS pr n S) (C : FC X Y l0 cX4_prepare 2 RX4 ({ frames := 3, cells := 0, slots := 0, locals := 73 } : Room) 0 0 none) (h : ph_H) (hP : PX4_prepare_16  h) (hR : RETv X Y ad n S cX4_prepare (FX4_prepare_16  h)) : FJ X Y ad n S h 16 [(0, .ref (ad 47))] [] := by
  unfold PX4_prepare_16 at hP
  unfold FX4_prepare_16 at hR
  refine j_aload_n C dX4_prepare_16 rfl rfl ?_
  refine gCRX4_18 C dX4_prepare_17 (W.lt 47 (by decide)) (sh_47 W) rfl ?_
  refine j_iconst (v := 0) C dX4_prepare_20 (by decide) ?_
  obtain ⟨p3, hP⟩ := hP
  refine j_callSv C (MJ7_fill_53178_k50 W 0 h p3) dX4_prepare_21 (CKJ7_fill_53178 (by decide)) ⟨rfl, rfl⟩ lk_RX4_32 st_J7_fill_53178 rfl (Nat.le_of_ble_eq_true rfl) ?_
  intro S' h' hq
  obtain ⟨e1, e2⟩ := hq
  rw [e1, e2]
  exact j_vl (tX4_prepare_24 W C  (FJ7_fill_53178_k50 0 h) hP hR) ⟨rfl, trivial⟩
def FX4_prepare (h : ph_H) : ph_H := if (h 47 6) = 0 then (FX4_prepare_16  (FJ7_fill_53178_k49 0 h)) else (h)
def PX4_prepare (h : ph_H) : Prop := ((h 47 6) = 0 → ((PJ7_fill_53178_k49 0 h) ∧ (PX4_prepare_16  (FJ7_fill_53178_k49 0 h)))) ∧ (¬ (h 47 6) = 0 → (True))
set_option maxRecDepth 100000 in
set_option maxHeartbeats 4000000 in
theorem tX4_prepare {X : fj_X} {Y : fj_Y} {l0 : Launch} {ad : Nat → Nat} {n : Nat} {S : ph_S} {pr : Nat} (W : WS pr n S) (C : FC X Y l0 cX4_prepare 2 RX4 ({ frames := 3, cells := 0, slots := 0, locals := 73 } : Room) 0 0 none) (h : ph_H) (hP : PX4_prepare h) (hR : RETv X Y ad n S cX4_prepare (FX4_prepare h)) : FJ X Y ad n S h 0 [(0, .ref (ad 47))] [] := by
  unfold PX4_prepare at hP
  unfold FX4_prepare at hR
  refine j_aload_n C dX4_prepare_0 rfl rfl ?_
  refine gCRX4_28 (v := (h 47 6)) C dX4_prepare_1 (W.lt 47 (by decide)) (sh_47 W) rfl rfl ?_
  refine j_if_eq (tgt := 8) C dX4_prepare_4 (by decide) (fun c0 => ?_) (fun c0 => ?_)
  · have hP := hP.1 c0
    rw [if_pos c0] at hR
    refine j_aload_n C dX4_prepare_8 rfl rfl ?_
    refine gCRX4_15 C dX4_prepare_9 (W.lt 47 (by decide)) (sh_47 W) rfl ?_
    refine j_iconst (v := 0) C dX4_prepare_12 (by decide) ?_
    obtain ⟨p3, hP⟩ := hP
    refine j_callSv C (MJ7_fill_53178_k49 W 0 h p3) dX4_prepare_13 (CKJ7_fill_53178 (by decide)) ⟨rfl, rfl⟩ lk_RX4_32 st_J7_fill_53178 rfl (Nat.le_of_ble_eq_true rfl) ?_
    intro S' h' hq
    obtain ⟨e1, e2⟩ := hq
    rw [e1, e2]
    exact j_vl (tX4_prepare_16 W C  (FJ7_fill_53178_k49 0 h) hP hR) ⟨rfl, trivial⟩
  · have hP := hP.2 c0
    rw [if_neg c0] at hR
    exact hR _ _ dX4_prepare_7
theorem MX4_prepare {l0 : Launch} {Y : fj_Y} {ad : Nat → Nat} {n : Nat} {S : ph_S} {pr : Nat} (W : WS pr n S) (h : ph_H) (hP : PX4_prepare h) : MV l0 yX4_prepare cX4_prepare 2 ({ frames := 3, cells := 0, slots := 0, locals := 73 } : Room) Y ad n S h [.ref (ad 47)] (fun S' h' => S' = S ∧ h' = FX4_prepare h) := met_v (by decide) (Nat.le_of_ble_eq_true rfl) (fun X C K => j_vl (tX4_prepare W C h hP (fun pc lv hd => K _ _ ⟨rfl, rfl⟩ pc lv hd)) ⟨rfl, trivial⟩)

-- X11_ahead
def FX11_ahead_40  (x1 : Int32) (x2 : Int32) (h : ph_H) : Int32 × ph_H := if (FX4_isAhead x1 x2 h) = 0 then ((0, h)) else ((1, h))
def PX11_ahead_40  (x1 : Int32) (x2 : Int32) (h : ph_H) : Prop := (PX4_isAhead x1 x2 h) ∧ (((FX4_isAhead x1 x2 h) = 0 → (True)) ∧ (¬ (FX4_isAhead x1 x2 h) = 0 → (True)))
set_option maxRecDepth 100000 in
set_option maxHeartbeats 4000000 in
theorem tX11_ahead_40 {X : fj_X} {Y : fj_Y} {l0 : Launch} {ad : Nat → Nat} {n : Nat} {S : ph_S} {pr : Nat} (W : WS pr n S) (C : FC X Y l0 cX11_ahead 3 RX11 ({ frames := 4, cells := 0, slots := 0, locals := 94 } : Room) 0 0 (some .int)) (x1 : Int32) (x2 : Int32) (h : ph_H) (hP : PX11_ahead_40  x1 x2 h) (hR : RETi X Y ad n S cX11_ahead (FX11_ahead_40  x1 x2 h)) : FJ X Y ad n S h 40 [(0, .ref (ad 0)), (1, .int x1), (2, .int x2)] [] := by
  unfold PX11_ahead_40 at hP
  unfold FX11_ahead_40 at hR
  refine j_aload_n C dX11_ahead_40 rfl rfl ?_
  refine gCRX11_43 C dX11_ahead_41 (W.lt 0 (by decide)) (sh_0 W) rfl ?_
  refine j_iload_n C dX11_ahead_44 rfl rfl ?_
  refine j_iload_n C dX11_ahead_45 rfl rfl ?_
  obtain ⟨p4, hP⟩ := hP
  refine j_callV C (MX4_isAhead W x1 x2 h p4) dX11_ahead_46 (CKX4_isAhead (by decide)) ⟨rfl, rfl⟩ lk_RX11_254 in_X4_isAhead se_X4_isAhead (W.lt 47 (by decide)) (sh_47 W) rfl rfl (Nat.le_of_ble_eq_true rfl) ?_
  intro r S' h' hq
  obtain ⟨e1, hh, e3, hb6⟩ := hq
  rw [e1, hh, e3]
  refine j_if_eq (tgt := 56) C dX11_ahead_49 (by decide) (fun c0 => ?_) (fun c0 => ?_)
  · have hP := hP.1 c0
    rw [if_pos c0] at hR
    refine j_iconst (v := 0) C dX11_ahead_56 (by decide) ?_
    exact RETi_u hR _ _ dX11_ahead_57
  · have hP := hP.2 c0
    rw [if_neg c0] at hR
    refine j_iconst (v := 1) C dX11_ahead_52 (by decide) ?_
    refine j_goto (tgt := 57) C dX11_ahead_53 (by decide) ?_
    exact RETi_u hR _ _ dX11_ahead_57
def FX11_ahead (a0 : Int32) (a1 : Int32) (h : ph_H) : Int32 × ph_H := if (h 0 8) = 0 then (((-2), h)) else (if a0 < 1 then (((-1), h)) else (if a1 ≤ a0 then (((-1), h)) else (if a1 ≤ (h 35 11) then (FX11_ahead_40  a0 a1 (FX4_prepare h)) else (((-1), h)))))
def PX11_ahead (a0 : Int32) (a1 : Int32) (h : ph_H) : Prop := ((h 0 8) = 0 → (True)) ∧ (¬ (h 0 8) = 0 → ((a0 < 1 → (True)) ∧ (¬ a0 < 1 → ((a1 ≤ a0 → (True)) ∧ (¬ a1 ≤ a0 → ((a1 ≤ (h 35 11) → ((PX4_prepare h) ∧ (PX11_ahead_40  a0 a1 (FX4_prepare h)))) ∧ (¬ a1 ≤ (h 35 11) → (True))))))))
set_option maxRecDepth 100000 in
set_option maxHeartbeats 4000000 in
theorem tX11_ahead {X : fj_X} {Y : fj_Y} {l0 : Launch} {ad : Nat → Nat} {n : Nat} {S : ph_S} {pr : Nat} (W : WS pr n S) (C : FC X Y l0 cX11_ahead 3 RX11 ({ frames := 4, cells := 0, slots := 0, locals := 94 } : Room) 0 0 (some .int)) (a0 : Int32) (a1 : Int32) (h : ph_H) (hP : PX11_ahead a0 a1 h) (hR : RETi X Y ad n S cX11_ahead (FX11_ahead a0 a1 h)) : FJ X Y ad n S h 0 [(0, .ref (ad 0)), (1, .int a0), (2, .int a1)] [] := by
  unfold PX11_ahead at hP
  unfold FX11_ahead at hR
  refine j_aload_n C dX11_ahead_0 rfl rfl ?_
  refine gCRX11_116 (v := (h 0 8)) C dX11_ahead_1 (W.lt 0 (by decide)) (sh_0 W) rfl rfl ?_
  refine j_if_ne (tgt := 10) C dX11_ahead_4 (by decide) (fun c0 => ?_) (fun c0 => ?_)
  · have hP := hP.2 c0
    rw [if_neg c0] at hR
    refine j_iload_n C dX11_ahead_10 rfl rfl ?_
    refine j_iconst (v := 1) C dX11_ahead_11 (by decide) ?_
    refine j_icmp_lt (tgt := 31) C dX11_ahead_12 (by decide) (fun c1 => ?_) (fun c1 => ?_)
    · have hP := hP.1 c1
      rw [if_pos c1] at hR
      refine j_iconst (v := (-1)) C dX11_ahead_31 (by decide) ?_
      exact RETi_u hR _ _ dX11_ahead_32
    · have hP := hP.2 c1
      rw [if_neg c1] at hR
      refine j_iload_n C dX11_ahead_15 rfl rfl ?_
      refine j_iload_n C dX11_ahead_16 rfl rfl ?_
      refine j_icmp_ge (tgt := 31) C dX11_ahead_17 (by decide) (fun c2 => ?_) (fun c2 => ?_)
      · have hP := hP.1 c2
        rw [if_pos c2] at hR
        refine j_iconst (v := (-1)) C dX11_ahead_31 (by decide) ?_
        exact RETi_u hR _ _ dX11_ahead_32
      · have hP := hP.2 c2
        rw [if_neg c2] at hR
        refine j_iload_n C dX11_ahead_20 rfl rfl ?_
        refine j_aload_n C dX11_ahead_21 rfl rfl ?_
        refine gCRX11_34 C dX11_ahead_22 (W.lt 0 (by decide)) (sh_0 W) rfl ?_
        refine gCRX11_120 (v := (h 35 11)) C dX11_ahead_25 (W.lt 35 (by decide)) (sh_35 W) rfl rfl ?_
        refine j_icmp_le (tgt := 33) C dX11_ahead_28 (by decide) (fun c3 => ?_) (fun c3 => ?_)
        · have hP := hP.1 c3
          rw [if_pos c3] at hR
          refine j_aload_n C dX11_ahead_33 rfl rfl ?_
          refine gCRX11_43 C dX11_ahead_34 (W.lt 0 (by decide)) (sh_0 W) rfl ?_
          obtain ⟨p2, hP⟩ := hP
          refine j_callVv C (MX4_prepare W h p2) dX11_ahead_37 (CKX4_prepare (by decide)) ⟨rfl, rfl⟩ lk_RX11_251 in_X4_prepare se_X4_prepare (W.lt 47 (by decide)) (sh_47 W) rfl rfl (Nat.le_of_ble_eq_true rfl) ?_
          intro S' h' hq
          obtain ⟨e1, e2⟩ := hq
          rw [e1, e2]
          exact j_vl (tX11_ahead_40 W C  a0 a1 (FX4_prepare h) hP hR) ⟨rfl, rfl, rfl, trivial⟩
        · have hP := hP.2 c3
          rw [if_neg c3] at hR
          refine j_iconst (v := (-1)) C dX11_ahead_31 (by decide) ?_
          exact RETi_u hR _ _ dX11_ahead_32
  · have hP := hP.1 c0
    rw [if_pos c0] at hR
    refine j_bipush (v := (-2)) C dX11_ahead_7 (by decide) ?_
    exact RETi_u hR _ _ dX11_ahead_9
theorem MX11_ahead {l0 : Launch} {Y : fj_Y} {ad : Nat → Nat} {n : Nat} {S : ph_S} {pr : Nat} (W : WS pr n S) (a0 : Int32) (a1 : Int32) (h : ph_H) (hP : PX11_ahead a0 a1 h) : MI l0 yX11_ahead cX11_ahead 3 (some .int) ({ frames := 4, cells := 0, slots := 0, locals := 94 } : Room) Y ad n S h [.ref (ad 0), .int a0, .int a1] (fun r S' h' => S' = S ∧ h' = (FX11_ahead a0 a1 h).2 ∧ r = (FX11_ahead a0 a1 h).1) := met_i (by decide) (Nat.le_of_ble_eq_true rfl) (fun _ _ _ _ => rfl) (fun X C K => j_vl (tX11_ahead W C a0 a1 h hP (fun pc lv hd => K _ _ _ ⟨rfl, rfl, rfl⟩ pc lv hd)) ⟨rfl, rfl, rfl, trivial⟩)

-- X4_earlierOf
def FX4_earlierOf_56 (L30 : Int32 → Int32 → Int32 → ph_H → Int32) (x2 : Int32) (x3 : Int32) (x4 : Int32) (h : ph_H) : Int32 := L30 x2 x3 (x4 + 1) h
def PX4_earlierOf_56 (LP30 : Int32 → Int32 → Int32 → ph_H → Prop) (x2 : Int32) (x3 : Int32) (x4 : Int32) (h : ph_H) : Prop := LP30 x2 x3 (x4 + 1) h
set_option maxRecDepth 100000 in
set_option maxHeartbeats 4000000 in
theorem tX4_earlierOf_56 {X : fj_X} {Y : fj_Y} {l0 : Launch} {ad : Nat → Nat} {n : Nat} {S : ph_S} {pr : Nat} (W : WS pr n S) (C : FC X Y l0 cX4_earlierOf 5 RX4 ({ frames := 2, cells := 0, slots := 0, locals := 45 } : Room) 0 0 (some .int)) (h : ph_H) (L30 : Int32 → Int32 → Int32 → ph_H → Int32) (LP30 : Int32 → Int32 → Int32 → ph_H → Prop) (hL30 : ∀ (x2 : Int32) (x3 : Int32) (x4 : Int32), LP30 x2 x3 x4 h → RETp X Y ad n S h cX4_earlierOf (L30 x2 x3 x4 h) → FJ X Y ad n S h 30 [(0, .ref (ad 47)), (2, .int x2), (3, .int x3), (4, .int x4)] []) (x2 : Int32) (x3 : Int32) (x4 : Int32) (hP : PX4_earlierOf_56 LP30 x2 x3 x4 h) (hR : RETp X Y ad n S h cX4_earlierOf (FX4_earlierOf_56 L30 x2 x3 x4 h)) : FJ X Y ad n S h 56 [(0, .ref (ad 47)), (2, .int x2), (3, .int x3), (4, .int x4)] [] := by
  unfold PX4_earlierOf_56 at hP
  unfold FX4_earlierOf_56 at hR
  refine j_iinc (v := (x4 + 1)) C dX4_earlierOf_56 rfl rfl (by decide) rfl ?_
  refine j_goto (tgt := 30) C dX4_earlierOf_59 (by decide) ?_
  exact j_vl (hL30 x2 x3 (x4 + 1) hP hR) ⟨rfl, rfl, rfl, rfl, trivial⟩
def FX4_earlierOf_30  : Nat → Int32 → Int32 → Int32 → ph_H → Int32
  | 0, _, _, _, _ => 0
  | q + 1, x2, x3, x4, h => if x2 ≤ x4 then (0) else (if (FX4_isRace x4 x2 h) = 0 then (FX4_earlierOf_56 (FX4_earlierOf_30  q) x2 x3 x4 h) else (if x3 = 0 then (x4) else (FX4_earlierOf_56 (FX4_earlierOf_30  q) x2 (x3 + (-1)) x4 h)))
def PX4_earlierOf_30  : Nat → Int32 → Int32 → Int32 → ph_H → Prop
  | 0, _, _, _, _ => False
  | q + 1, x2, x3, x4, h => (x2 ≤ x4 → (True)) ∧ (¬ x2 ≤ x4 → ((PX4_isRace x4 x2 h) ∧ (((FX4_isRace x4 x2 h) = 0 → (PX4_earlierOf_56 (PX4_earlierOf_30  q) x2 x3 x4 h)) ∧ (¬ (FX4_isRace x4 x2 h) = 0 → ((x3 = 0 → (True)) ∧ (¬ x3 = 0 → (PX4_earlierOf_56 (PX4_earlierOf_30  q) x2 (x3 + (-1)) x4 h)))))))
set_option maxRecDepth 100000 in
set_option maxHeartbeats 4000000 in
theorem tX4_earlierOf_30 {X : fj_X} {Y : fj_Y} {l0 : Launch} {ad : Nat → Nat} {n : Nat} {S : ph_S} {pr : Nat} (W : WS pr n S) (C : FC X Y l0 cX4_earlierOf 5 RX4 ({ frames := 2, cells := 0, slots := 0, locals := 45 } : Room) 0 0 (some .int)) (h : ph_H) : ∀ (q : Nat) (x2 : Int32) (x3 : Int32) (x4 : Int32), PX4_earlierOf_30  q x2 x3 x4 h → RETp X Y ad n S h cX4_earlierOf (FX4_earlierOf_30  q x2 x3 x4 h) → FJ X Y ad n S h 30 [(0, .ref (ad 47)), (2, .int x2), (3, .int x3), (4, .int x4)] [] := by
  intro q
  induction q with
  | zero =>
    intro x2 x3 x4 hP hR
    exact absurd hP id
  | succ q ih =>
    intro x2 x3 x4 hP hR
    unfold PX4_earlierOf_30 at hP
    unfold FX4_earlierOf_30 at hR
    refine j_iload C dX4_earlierOf_30 rfl ?_
    refine j_iload_n C dX4_earlierOf_32 rfl rfl ?_
    refine j_icmp_ge (tgt := 62) C dX4_earlierOf_33 (by decide) (fun c0 => ?_) (fun c0 => ?_)
    · have hP := hP.1 c0
      rw [if_pos c0] at hR
      refine j_iconst (v := 0) C dX4_earlierOf_62 (by decide) ?_
      exact hR _ _ dX4_earlierOf_63
    · have hP := hP.2 c0
      rw [if_neg c0] at hR
      refine j_aload_n C dX4_earlierOf_36 rfl rfl ?_
      refine j_iload C dX4_earlierOf_37 rfl ?_
      refine j_iload_n C dX4_earlierOf_39 rfl rfl ?_
      obtain ⟨p3, hP⟩ := hP
      refine j_callV C (MX4_isRace W x4 x2 h p3) dX4_earlierOf_40 (CKX4_isRace (by decide)) ⟨rfl, rfl⟩ lk_RX4_90 in_X4_isRace se_X4_isRace (W.lt 47 (by decide)) (sh_47 W) rfl rfl (Nat.le_of_ble_eq_true rfl) ?_
      intro r S' h' hq
      obtain ⟨e1, hh, e3, hb5⟩ := hq
      rw [e1, hh, e3]
      refine j_if_eq (tgt := 56) C dX4_earlierOf_43 (by decide) (fun c1 => ?_) (fun c1 => ?_)
      · have hP := hP.1 c1
        rw [if_pos c1] at hR
        exact j_vl (tX4_earlierOf_56 W C h (FX4_earlierOf_30  q) (PX4_earlierOf_30  q) (ih) x2 x3 x4 hP hR) ⟨rfl, rfl, rfl, rfl, trivial⟩
      · have hP := hP.2 c1
        rw [if_neg c1] at hR
        refine j_iload_n C dX4_earlierOf_46 rfl rfl ?_
        refine j_if_ne (tgt := 53) C dX4_earlierOf_47 (by decide) (fun c2 => ?_) (fun c2 => ?_)
        · have hP := hP.2 c2
          rw [if_neg c2] at hR
          refine j_iinc (v := (x3 + (-1))) C dX4_earlierOf_53 rfl rfl (by decide) rfl ?_
          exact j_vl (tX4_earlierOf_56 W C h (FX4_earlierOf_30  q) (PX4_earlierOf_30  q) (ih) x2 (x3 + (-1)) x4 hP hR) ⟨rfl, rfl, rfl, rfl, trivial⟩
        · have hP := hP.1 c2
          rw [if_pos c2] at hR
          refine j_iload C dX4_earlierOf_50 rfl ?_
          exact hR _ _ dX4_earlierOf_52
def FX4_earlierOf_5  : Nat → Int32 → Int32 → Int32 → ph_H → Int32
  | 0, _, _, _, _ => 0
  | q + 1, x2, x3, x4, h => if x2 ≤ x4 then (FX4_earlierOf_30 2000 x2 x3 1 h) else (FX4_earlierOf_5  q x2 (x3 - (h 51 (x4.toNatClampNeg))) (x4 + 1) h)
def PX4_earlierOf_5  : Nat → Int32 → Int32 → Int32 → ph_H → Prop
  | 0, _, _, _, _ => False
  | q + 1, x2, x3, x4, h => (x2 ≤ x4 → (PX4_earlierOf_30 2000 x2 x3 1 h)) ∧ (¬ x2 ≤ x4 → (vp_in x4 301 ∧ (PX4_earlierOf_5  q x2 (x3 - (h 51 (x4.toNatClampNeg))) (x4 + 1) h)))
set_option maxRecDepth 100000 in
set_option maxHeartbeats 4000000 in
theorem tX4_earlierOf_5 {X : fj_X} {Y : fj_Y} {l0 : Launch} {ad : Nat → Nat} {n : Nat} {S : ph_S} {pr : Nat} (W : WS pr n S) (C : FC X Y l0 cX4_earlierOf 5 RX4 ({ frames := 2, cells := 0, slots := 0, locals := 45 } : Room) 0 0 (some .int)) (h : ph_H) : ∀ (q : Nat) (x2 : Int32) (x3 : Int32) (x4 : Int32), PX4_earlierOf_5  q x2 x3 x4 h → RETp X Y ad n S h cX4_earlierOf (FX4_earlierOf_5  q x2 x3 x4 h) → FJ X Y ad n S h 5 [(0, .ref (ad 47)), (2, .int x2), (3, .int x3), (4, .int x4)] [] := by
  intro q
  induction q with
  | zero =>
    intro x2 x3 x4 hP hR
    exact absurd hP id
  | succ q ih =>
    intro x2 x3 x4 hP hR
    unfold PX4_earlierOf_5 at hP
    unfold FX4_earlierOf_5 at hR
    refine j_iload C dX4_earlierOf_5 rfl ?_
    refine j_iload_n C dX4_earlierOf_7 rfl rfl ?_
    refine j_icmp_ge (tgt := 27) C dX4_earlierOf_8 (by decide) (fun c0 => ?_) (fun c0 => ?_)
    · have hP := hP.1 c0
      rw [if_pos c0] at hR
      refine j_iconst (v := 1) C dX4_earlierOf_27 (by decide) ?_
      refine j_istore C dX4_earlierOf_28 (by decide) rfl ?_
      exact j_vl (tX4_earlierOf_30 W C h 2000 x2 x3 1 hP hR) ⟨rfl, rfl, rfl, rfl, trivial⟩
    · have hP := hP.2 c0
      rw [if_neg c0] at hR
      refine j_iload_n C dX4_earlierOf_11 rfl rfl ?_
      refine j_aload_n C dX4_earlierOf_12 rfl rfl ?_
      refine gCRX4_21 C dX4_earlierOf_13 (W.lt 47 (by decide)) (sh_47 W) rfl ?_
      refine j_iload C dX4_earlierOf_16 rfl ?_
      obtain ⟨p4, hP⟩ := hP
      refine j_iald (k := 51) (v := (h 51 (x4.toNatClampNeg))) C dX4_earlierOf_18 (W.lt 51 (by decide)) (sh_51 W) p4 rfl ?_
      refine j_isub C dX4_earlierOf_19 ?_
      refine j_istore_n C dX4_earlierOf_20 rfl (by decide) rfl ?_
      refine j_iinc (v := (x4 + 1)) C dX4_earlierOf_21 rfl rfl (by decide) rfl ?_
      refine j_goto (tgt := 5) C dX4_earlierOf_24 (by decide) ?_
      exact j_vl (ih x2 (x3 - (h 51 (x4.toNatClampNeg))) (x4 + 1) hP hR) ⟨rfl, rfl, rfl, rfl, trivial⟩
def FX4_earlierOf (a0 : Int32) (a1 : Int32) (h : ph_H) : Int32 := FX4_earlierOf_5 2000 a1 a0 1 h
def PX4_earlierOf (a0 : Int32) (a1 : Int32) (h : ph_H) : Prop := PX4_earlierOf_5 2000 a1 a0 1 h
set_option maxRecDepth 100000 in
set_option maxHeartbeats 4000000 in
theorem tX4_earlierOf {X : fj_X} {Y : fj_Y} {l0 : Launch} {ad : Nat → Nat} {n : Nat} {S : ph_S} {pr : Nat} (W : WS pr n S) (C : FC X Y l0 cX4_earlierOf 5 RX4 ({ frames := 2, cells := 0, slots := 0, locals := 45 } : Room) 0 0 (some .int)) (a0 : Int32) (a1 : Int32) (h : ph_H) (hP : PX4_earlierOf a0 a1 h) (hR : RETp X Y ad n S h cX4_earlierOf (FX4_earlierOf a0 a1 h)) : FJ X Y ad n S h 0 [(0, .ref (ad 47)), (1, .int a0), (2, .int a1)] [] := by
  unfold PX4_earlierOf at hP
  unfold FX4_earlierOf at hR
  refine j_iload_n C dX4_earlierOf_0 rfl rfl ?_
  refine j_istore_n C dX4_earlierOf_1 rfl (by decide) rfl ?_
  refine j_iconst (v := 1) C dX4_earlierOf_2 (by decide) ?_
  refine j_istore C dX4_earlierOf_3 (by decide) rfl ?_
  exact j_vl (tX4_earlierOf_5 W C h 2000 a1 a0 1 hP hR) ⟨rfl, rfl, rfl, rfl, trivial⟩
theorem MX4_earlierOf {l0 : Launch} {Y : fj_Y} {ad : Nat → Nat} {n : Nat} {S : ph_S} {pr : Nat} (W : WS pr n S) (a0 : Int32) (a1 : Int32) (h : ph_H) (hP : PX4_earlierOf a0 a1 h) : MI l0 yX4_earlierOf cX4_earlierOf 5 (some .int) ({ frames := 2, cells := 0, slots := 0, locals := 45 } : Room) Y ad n S h [.ref (ad 47), .int a0, .int a1] (fun r S' h' => S' = S ∧ h' = h ∧ r = FX4_earlierOf a0 a1 h) := met_i (by decide) (Nat.le_of_ble_eq_true rfl) (fun _ _ _ _ => rfl) (fun X C K => j_vl (tX4_earlierOf W C a0 a1 h hP (fun pc lv hd => K _ _ _ ⟨rfl, rfl, rfl⟩ pc lv hd)) ⟨rfl, rfl, rfl, trivial⟩)

-- X4_laterOf
def FX4_laterOf_4  : Nat → Int32 → Int32 → Int32 → ph_H → Int32
  | 0, _, _, _, _ => 0
  | q + 1, x1, x2, x3, h => if (h 35 11) < x3 then (0) else (if (x2 + (h 51 (x3.toNatClampNeg))) ≤ x1 then (FX4_laterOf_4  q x1 (x2 + (h 51 (x3.toNatClampNeg))) (x3 + 1) h) else (x3))
def PX4_laterOf_4  : Nat → Int32 → Int32 → Int32 → ph_H → Prop
  | 0, _, _, _, _ => False
  | q + 1, x1, x2, x3, h => ((h 35 11) < x3 → (True)) ∧ (¬ (h 35 11) < x3 → (vp_in x3 301 ∧ (((x2 + (h 51 (x3.toNatClampNeg))) ≤ x1 → (PX4_laterOf_4  q x1 (x2 + (h 51 (x3.toNatClampNeg))) (x3 + 1) h)) ∧ (¬ (x2 + (h 51 (x3.toNatClampNeg))) ≤ x1 → (True)))))
set_option maxRecDepth 100000 in
set_option maxHeartbeats 4000000 in
theorem tX4_laterOf_4 {X : fj_X} {Y : fj_Y} {l0 : Launch} {ad : Nat → Nat} {n : Nat} {S : ph_S} {pr : Nat} (W : WS pr n S) (C : FC X Y l0 cX4_laterOf 4 RX4 ({ frames := 0, cells := 0, slots := 0, locals := 0 } : Room) 0 0 (some .int)) (h : ph_H) : ∀ (q : Nat) (x1 : Int32) (x2 : Int32) (x3 : Int32), PX4_laterOf_4  q x1 x2 x3 h → RETp X Y ad n S h cX4_laterOf (FX4_laterOf_4  q x1 x2 x3 h) → FJ X Y ad n S h 4 [(0, .ref (ad 47)), (1, .int x1), (2, .int x2), (3, .int x3)] [] := by
  intro q
  induction q with
  | zero =>
    intro x1 x2 x3 hP hR
    exact absurd hP id
  | succ q ih =>
    intro x1 x2 x3 hP hR
    unfold PX4_laterOf_4 at hP
    unfold FX4_laterOf_4 at hR
    refine j_iload_n C dX4_laterOf_4 rfl rfl ?_
    refine j_aload_n C dX4_laterOf_5 rfl rfl ?_
    refine gCRX4_24 C dX4_laterOf_6 (W.lt 47 (by decide)) (sh_47 W) rfl ?_
    refine gCRX4_42 (v := (h 35 11)) C dX4_laterOf_9 (W.lt 35 (by decide)) (sh_35 W) rfl rfl ?_
    refine j_icmp_gt (tgt := 37) C dX4_laterOf_12 (by decide) (fun c0 => ?_) (fun c0 => ?_)
    · have hP := hP.1 c0
      rw [if_pos c0] at hR
      refine j_iconst (v := 0) C dX4_laterOf_37 (by decide) ?_
      exact hR _ _ dX4_laterOf_38
    · have hP := hP.2 c0
      rw [if_neg c0] at hR
      refine j_iload_n C dX4_laterOf_15 rfl rfl ?_
      refine j_aload_n C dX4_laterOf_16 rfl rfl ?_
      refine gCRX4_21 C dX4_laterOf_17 (W.lt 47 (by decide)) (sh_47 W) rfl ?_
      refine j_iload_n C dX4_laterOf_20 rfl rfl ?_
      obtain ⟨p4, hP⟩ := hP
      refine j_iald (k := 51) (v := (h 51 (x3.toNatClampNeg))) C dX4_laterOf_21 (W.lt 51 (by decide)) (sh_51 W) p4 rfl ?_
      refine j_iadd C dX4_laterOf_22 ?_
      refine j_istore_n C dX4_laterOf_23 rfl (by decide) rfl ?_
      refine j_iload_n C dX4_laterOf_24 rfl rfl ?_
      refine j_iload_n C dX4_laterOf_25 rfl rfl ?_
      refine j_icmp_ge (tgt := 31) C dX4_laterOf_26 (by decide) (fun c1 => ?_) (fun c1 => ?_)
      · have hP := hP.1 c1
        rw [if_pos c1] at hR
        refine j_iinc (v := (x3 + 1)) C dX4_laterOf_31 rfl rfl (by decide) rfl ?_
        refine j_goto (tgt := 4) C dX4_laterOf_34 (by decide) ?_
        exact j_vl (ih x1 (x2 + (h 51 (x3.toNatClampNeg))) (x3 + 1) hP hR) ⟨rfl, rfl, rfl, rfl, trivial⟩
      · have hP := hP.2 c1
        rw [if_neg c1] at hR
        refine j_iload_n C dX4_laterOf_29 rfl rfl ?_
        exact hR _ _ dX4_laterOf_30
def FX4_laterOf (a0 : Int32) (h : ph_H) : Int32 := FX4_laterOf_4 2000 a0 0 1 h
def PX4_laterOf (a0 : Int32) (h : ph_H) : Prop := PX4_laterOf_4 2000 a0 0 1 h
set_option maxRecDepth 100000 in
set_option maxHeartbeats 4000000 in
theorem tX4_laterOf {X : fj_X} {Y : fj_Y} {l0 : Launch} {ad : Nat → Nat} {n : Nat} {S : ph_S} {pr : Nat} (W : WS pr n S) (C : FC X Y l0 cX4_laterOf 4 RX4 ({ frames := 0, cells := 0, slots := 0, locals := 0 } : Room) 0 0 (some .int)) (a0 : Int32) (h : ph_H) (hP : PX4_laterOf a0 h) (hR : RETp X Y ad n S h cX4_laterOf (FX4_laterOf a0 h)) : FJ X Y ad n S h 0 [(0, .ref (ad 47)), (1, .int a0)] [] := by
  unfold PX4_laterOf at hP
  unfold FX4_laterOf at hR
  refine j_iconst (v := 0) C dX4_laterOf_0 (by decide) ?_
  refine j_istore_n C dX4_laterOf_1 rfl (by decide) rfl ?_
  refine j_iconst (v := 1) C dX4_laterOf_2 (by decide) ?_
  refine j_istore_n C dX4_laterOf_3 rfl (by decide) rfl ?_
  exact j_vl (tX4_laterOf_4 W C h 2000 a0 0 1 hP hR) ⟨rfl, rfl, rfl, rfl, trivial⟩
theorem MX4_laterOf {l0 : Launch} {Y : fj_Y} {ad : Nat → Nat} {n : Nat} {S : ph_S} {pr : Nat} (W : WS pr n S) (a0 : Int32) (h : ph_H) (hP : PX4_laterOf a0 h) : MI l0 yX4_laterOf cX4_laterOf 4 (some .int) ({ frames := 0, cells := 0, slots := 0, locals := 0 } : Room) Y ad n S h [.ref (ad 47), .int a0] (fun r S' h' => S' = S ∧ h' = h ∧ r = FX4_laterOf a0 h) := met_i (by decide) (Nat.le_of_ble_eq_true rfl) (fun _ _ _ _ => rfl) (fun X C K => j_vl (tX4_laterOf W C a0 h hP (fun pc lv hd => K _ _ _ ⟨rfl, rfl, rfl⟩ pc lv hd)) ⟨rfl, rfl, trivial⟩)
