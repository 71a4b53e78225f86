-- X12_ahead
def FX12_ahead_48  (x1 : Int32) (x2 : Int32) (h : ph_H) : Int32 × ph_H := if (h 39 (((301 * x1) + x2).toNatClampNeg)) = 0 then ((0, h)) else ((1, h))
def PX12_ahead_48  (x1 : Int32) (x2 : Int32) (h : ph_H) : Prop := vp_in ((301 * x1) + x2) 90601 ∧ (((h 39 (((301 * x1) + x2).toNatClampNeg)) = 0 → (True)) ∧ (¬ (h 39 (((301 * x1) + x2).toNatClampNeg)) = 0 → (True)))
set_option maxRecDepth 100000 in
set_option maxHeartbeats 4000000 in
theorem tX12_ahead_48 {X : fj_X} {Y : fj_Y} {l0 : Launch} {ad : Nat → Nat} (C : FC X Y l0 cX12_ahead 3 RX12 ({ frames := 3, cells := 0, slots := 0, locals := 72 } : Room) 0 0 (some .int)) (x1 : Int32) (x2 : Int32) (h : ph_H) (hP : PX12_ahead_48  x1 x2 h) (hR : RETi X Y ad 50 SM cX12_ahead (FX12_ahead_48  x1 x2 h)) : FJ X Y ad 50 SM h 48 [(0, .ref (ad 0)), (1, .int x1), (2, .int x2)] [] := by
  unfold PX12_ahead_48 at hP
  unfold FX12_ahead_48 at hR
  refine j_aload_n C dX12_ahead_48 rfl rfl ?_
  refine gM_127 C dX12_ahead_49 ?_
  refine j_sipush (v := 301) C dX12_ahead_52 (by decide) ?_
  refine j_iload_n C dX12_ahead_55 rfl rfl ?_
  refine j_imul C dX12_ahead_56 ?_
  refine j_iload_n C dX12_ahead_57 rfl rfl ?_
  refine j_iadd C dX12_ahead_58 ?_
  obtain ⟨p7, hP⟩ := hP
  refine j_zald (k := 39) (v := (h 39 (((301 * x1) + x2).toNatClampNeg))) C dX12_ahead_59 (by decide) rfl p7 rfl ?_
  refine j_if_eq (tgt := 67) C dX12_ahead_60 (by decide) (fun c0 => ?_) (fun c0 => ?_)
  · have hP := hP.1 c0
    rw [if_pos c0] at hR
    refine j_iconst (v := 0) C dX12_ahead_67 (by decide) ?_
    exact hR _ _ dX12_ahead_68
  · have hP := hP.2 c0
    rw [if_neg c0] at hR
    refine j_iconst (v := 1) C dX12_ahead_63 (by decide) ?_
    refine j_goto (tgt := 68) C dX12_ahead_64 (by decide) ?_
    exact hR _ _ dX12_ahead_68
def FX12_ahead (a0 : Int32) (a1 : Int32) (h : ph_H) : Int32 × ph_H := if (h 0 36) = 0 then (((-2), (hs h 0 0 0))) else (if (FX12_isIn a1.toInt64 1 ((h 0 38).toInt64)) = 0 then (((-1), (hs h 0 0 0))) else (if (FX12_isIn a0.toInt64 1 ((a1 - 1).toInt64)) = 0 then (((-1), (hs h 0 0 0))) else (FX12_ahead_48  a0 a1 (FX12_findAhead (hs h 0 0 0)))))
def PX12_ahead (a0 : Int32) (a1 : Int32) (h : ph_H) : Prop := ((h 0 36) = 0 → (True)) ∧ (¬ (h 0 36) = 0 → ((PX12_isIn a1.toInt64 1 ((h 0 38).toInt64)) ∧ (((FX12_isIn a1.toInt64 1 ((h 0 38).toInt64)) = 0 → (True)) ∧ (¬ (FX12_isIn a1.toInt64 1 ((h 0 38).toInt64)) = 0 → ((PX12_isIn a0.toInt64 1 ((a1 - 1).toInt64)) ∧ (((FX12_isIn a0.toInt64 1 ((a1 - 1).toInt64)) = 0 → (True)) ∧ (¬ (FX12_isIn a0.toInt64 1 ((a1 - 1).toInt64)) = 0 → ((PX12_findAhead (hs h 0 0 0)) ∧ (PX12_ahead_48  a0 a1 (FX12_findAhead (hs h 0 0 0)))))))))))
set_option maxRecDepth 100000 in
set_option maxHeartbeats 4000000 in
theorem tX12_ahead {X : fj_X} {Y : fj_Y} {l0 : Launch} {ad : Nat → Nat} (C : FC X Y l0 cX12_ahead 3 RX12 ({ frames := 3, cells := 0, slots := 0, locals := 72 } : Room) 0 0 (some .int)) (a0 : Int32) (a1 : Int32) (h : ph_H) (hP : PX12_ahead a0 a1 h) (hR : RETi X Y ad 50 SM cX12_ahead (FX12_ahead a0 a1 h)) : FJ X Y ad 50 SM h 0 [(0, .ref (ad 0)), (1, .int a0), (2, .int a1)] [] := by
  unfold PX12_ahead at hP
  unfold FX12_ahead at hR
  refine j_aload_n C dX12_ahead_0 rfl rfl ?_
  refine j_iconst (v := 0) C dX12_ahead_1 (by decide) ?_
  refine pM_164 C dX12_ahead_2 ?_
  refine j_aload_n C dX12_ahead_5 rfl rfl ?_
  refine gM_294 (v := (h 0 36)) C dX12_ahead_6 (hz_i (by decide)) ?_
  refine j_if_ne (tgt := 15) C dX12_ahead_9 (by decide) (fun c0 => ?_) (fun c0 => ?_)
  · have hP := hP.2 c0
    rw [if_neg c0] at hR
    refine j_iload_n C dX12_ahead_15 rfl rfl ?_
    refine j_i2l C dX12_ahead_16 ?_
    refine j_lconst (v := 1) C dX12_ahead_17 (by decide) ?_
    refine j_aload_n C dX12_ahead_18 rfl rfl ?_
    refine gM_304 (v := (h 0 38)) C dX12_ahead_19 (hz_i (by decide)) ?_
    refine j_i2l C dX12_ahead_22 ?_
    obtain ⟨p6, hP⟩ := hP
    refine j_callS C (MX12_isIn a1.toInt64 1 ((h 0 38).toInt64) (hs h 0 0 0) p6) dX12_ahead_23 (CKX12_isIn (by decide)) ⟨rfl, rfl⟩ lk_RX12_169 st_X12_isIn rfl (Nat.le_of_ble_eq_true rfl) ?_
    intro r S' h' hq
    obtain ⟨rfl, hh, rfl, hb8⟩ := hq
    rw [hh]
    refine j_if_eq (tgt := 42) C dX12_ahead_26 (by decide) (fun c1 => ?_) (fun c1 => ?_)
    · have hP := hP.1 c1
      rw [if_pos c1] at hR
      refine j_iconst (v := (-1)) C dX12_ahead_42 (by decide) ?_
      exact hR _ _ dX12_ahead_43
    · have hP := hP.2 c1
      rw [if_neg c1] at hR
      refine j_iload_n C dX12_ahead_29 rfl rfl ?_
      refine j_i2l C dX12_ahead_30 ?_
      refine j_lconst (v := 1) C dX12_ahead_31 (by decide) ?_
      refine j_iload_n C dX12_ahead_32 rfl rfl ?_
      refine j_iconst (v := 1) C dX12_ahead_33 (by decide) ?_
      refine j_isub C dX12_ahead_34 ?_
      refine j_i2l C dX12_ahead_35 ?_
      obtain ⟨p7, hP⟩ := hP
      refine j_callS C (MX12_isIn a0.toInt64 1 ((a1 - 1).toInt64) (hs h 0 0 0) p7) dX12_ahead_36 (CKX12_isIn (by decide)) ⟨rfl, rfl⟩ lk_RX12_169 st_X12_isIn rfl (Nat.le_of_ble_eq_true rfl) ?_
      intro r S' h' hq
      obtain ⟨rfl, hh, rfl, hb9⟩ := hq
      rw [hh]
      refine j_if_ne (tgt := 44) C dX12_ahead_39 (by decide) (fun c2 => ?_) (fun c2 => ?_)
      · have hP := hP.2 c2
        rw [if_neg c2] at hR
        refine j_aload_n C dX12_ahead_44 rfl rfl ?_
        obtain ⟨p1, hP⟩ := hP
        refine j_callVv C (MX12_findAhead (hs h 0 0 0) p1) dX12_ahead_45 (CKX12_findAhead (by decide)) ⟨rfl, rfl⟩ lk_RX12_334 in_X12_findAhead se_X12_findAhead (by decide) rfl rfl rfl (Nat.le_of_ble_eq_true rfl) ?_
        intro S' h' hq
        obtain ⟨rfl, rfl⟩ := hq
        exact j_vl (tX12_ahead_48 C  a0 a1 (FX12_findAhead (hs h 0 0 0)) hP hR) ⟨rfl, rfl, rfl, trivial⟩
      · have hP := hP.1 c2
        rw [if_pos c2] at hR
        refine j_iconst (v := (-1)) C dX12_ahead_42 (by decide) ?_
        exact hR _ _ dX12_ahead_43
  · have hP := hP.1 c0
    rw [if_pos c0] at hR
    refine j_bipush (v := (-2)) C dX12_ahead_12 (by decide) ?_
    exact hR _ _ dX12_ahead_14
theorem MX12_ahead {l0 : Launch} {Y : fj_Y} {ad : Nat → Nat} (a0 : Int32) (a1 : Int32) (h : ph_H) (hP : PX12_ahead a0 a1 h) : MI l0 yX12_ahead cX12_ahead 3 (some .int) ({ frames := 3, cells := 0, slots := 0, locals := 72 } : Room) Y ad 50 SM h [.ref (ad 0), .int a0, .int a1] (fun r S' h' => S' = SM ∧ h' = (FX12_ahead a0 a1 h).2 ∧ r = (FX12_ahead a0 a1 h).1) := met_i (by decide) (Nat.le_of_ble_eq_true rfl) (fun _ _ _ _ => rfl) (fun X C K => j_vl (tX12_ahead C a0 a1 h hP (fun pc lv hd => K _ _ _ ⟨rfl, rfl, rfl⟩ pc lv hd)) ⟨rfl, rfl, rfl, trivial⟩)

-- X12_racing
def FX12_racing_111  (x3 : Int32) (h : ph_H) : Int32 := x3
def PX12_racing_111  (x3 : Int32) (h : ph_H) : Prop := True
set_option maxRecDepth 100000 in
set_option maxHeartbeats 4000000 in
theorem tX12_racing_111 {X : fj_X} {Y : fj_Y} {l0 : Launch} {ad : Nat → Nat} (C : FC X Y l0 cX12_racing 5 RX12 ({ frames := 0, cells := 0, slots := 0, locals := 0 } : Room) 0 0 (some .int)) (h : ph_H) (x3 : Int32) (hP : PX12_racing_111  x3 h) (hR : RETp X Y ad 50 SM h cX12_racing (FX12_racing_111  x3 h)) : FJ X Y ad 50 SM h 111 [(3, .int x3)] [] := by
  unfold PX12_racing_111 at hP
  unfold FX12_racing_111 at hR
  refine j_iload_n C dX12_racing_111 rfl rfl ?_
  refine j_goto (tgt := 116) C dX12_racing_112 (by decide) ?_
  exact hR _ _ dX12_racing_116
def FX12_racing_80  (x2 : Int32) (x3 : Int32) (s0 : Int32) (h : ph_H) : Int32 := if x3 < 0 then ((-1)) else (if s0 = 0 then ((-1)) else (if (h 33 (x2.toNatClampNeg)) = x3 then (FX12_racing_111  x3 h) else (if (h 32 (x2.toNatClampNeg)) = x3 then (FX12_racing_111  x3 h) else ((-1)))))
def PX12_racing_80  (x2 : Int32) (x3 : Int32) (s0 : Int32) (h : ph_H) : Prop := (x3 < 0 → (True)) ∧ (¬ x3 < 0 → ((s0 = 0 → (True)) ∧ (¬ s0 = 0 → (vp_in x2 301 ∧ (((h 33 (x2.toNatClampNeg)) = x3 → (PX12_racing_111  x3 h)) ∧ (¬ (h 33 (x2.toNatClampNeg)) = x3 → (vp_in x2 301 ∧ (((h 32 (x2.toNatClampNeg)) = x3 → (PX12_racing_111  x3 h)) ∧ (¬ (h 32 (x2.toNatClampNeg)) = x3 → (True))))))))))
set_option maxRecDepth 100000 in
set_option maxHeartbeats 4000000 in
theorem tX12_racing_80 {X : fj_X} {Y : fj_Y} {l0 : Launch} {ad : Nat → Nat} (C : FC X Y l0 cX12_racing 5 RX12 ({ frames := 0, cells := 0, slots := 0, locals := 0 } : Room) 0 0 (some .int)) (h : ph_H) (x2 : Int32) (x3 : Int32) (s0 : Int32) (hP : PX12_racing_80  x2 x3 s0 h) (hR : RETp X Y ad 50 SM h cX12_racing (FX12_racing_80  x2 x3 s0 h)) : FJ X Y ad 50 SM h 80 [(0, .ref (ad 0)), (2, .int x2), (3, .int x3)] [.int s0] := by
  unfold PX12_racing_80 at hP
  unfold FX12_racing_80 at hR
  refine j_istore C dX12_racing_80 (by decide) rfl ?_
  refine j_iload_n C dX12_racing_82 rfl rfl ?_
  refine j_if_lt (tgt := 115) C dX12_racing_83 (by decide) (fun c0 => ?_) (fun c0 => ?_)
  · have hP := hP.1 c0
    rw [if_pos c0] at hR
    refine j_iconst (v := (-1)) C dX12_racing_115 (by decide) ?_
    exact hR _ _ dX12_racing_116
  · have hP := hP.2 c0
    rw [if_neg c0] at hR
    refine j_iload C dX12_racing_86 rfl ?_
    refine j_if_eq (tgt := 115) C dX12_racing_88 (by decide) (fun c1 => ?_) (fun c1 => ?_)
    · have hP := hP.1 c1
      rw [if_pos c1] at hR
      refine j_iconst (v := (-1)) C dX12_racing_115 (by decide) ?_
      exact hR _ _ dX12_racing_116
    · have hP := hP.2 c1
      rw [if_neg c1] at hR
      refine j_aload_n C dX12_racing_91 rfl rfl ?_
      refine gM_108 C dX12_racing_92 ?_
      refine j_iload_n C dX12_racing_95 rfl rfl ?_
      obtain ⟨p3, hP⟩ := hP
      refine j_iald (k := 33) (v := (h 33 (x2.toNatClampNeg))) C dX12_racing_96 (by decide) rfl p3 rfl ?_
      refine j_iload_n C dX12_racing_97 rfl rfl ?_
      refine j_icmp_eq (tgt := 111) C dX12_racing_98 (by decide) (fun c2 => ?_) (fun c2 => ?_)
      · have hP := hP.1 c2
        rw [if_pos c2] at hR
        exact j_vl (tX12_racing_111 C h x3 hP hR) ⟨rfl, trivial⟩
      · have hP := hP.2 c2
        rw [if_neg c2] at hR
        refine j_aload_n C dX12_racing_101 rfl rfl ?_
        refine gM_105 C dX12_racing_102 ?_
        refine j_iload_n C dX12_racing_105 rfl rfl ?_
        obtain ⟨p3, hP⟩ := hP
        refine j_iald (k := 32) (v := (h 32 (x2.toNatClampNeg))) C dX12_racing_106 (by decide) rfl p3 rfl ?_
        refine j_iload_n C dX12_racing_107 rfl rfl ?_
        refine j_icmp_ne (tgt := 115) C dX12_racing_108 (by decide) (fun c3 => ?_) (fun c3 => ?_)
        · have hP := hP.2 c3
          rw [if_neg c3] at hR
          refine j_iconst (v := (-1)) C dX12_racing_115 (by decide) ?_
          exact hR _ _ dX12_racing_116
        · have hP := hP.1 c3
          rw [if_pos c3] at hR
          exact j_vl (tX12_racing_111 C h x3 hP hR) ⟨rfl, trivial⟩
def FX12_racing_75  (x2 : Int32) (x3 : Int32) (h : ph_H) : Int32 := FX12_racing_80  x2 x3 1 h
def PX12_racing_75  (x2 : Int32) (x3 : Int32) (h : ph_H) : Prop := PX12_racing_80  x2 x3 1 h
set_option maxRecDepth 100000 in
set_option maxHeartbeats 4000000 in
theorem tX12_racing_75 {X : fj_X} {Y : fj_Y} {l0 : Launch} {ad : Nat → Nat} (C : FC X Y l0 cX12_racing 5 RX12 ({ frames := 0, cells := 0, slots := 0, locals := 0 } : Room) 0 0 (some .int)) (h : ph_H) (x2 : Int32) (x3 : Int32) (hP : PX12_racing_75  x2 x3 h) (hR : RETp X Y ad 50 SM h cX12_racing (FX12_racing_75  x2 x3 h)) : FJ X Y ad 50 SM h 75 [(0, .ref (ad 0)), (2, .int x2), (3, .int x3)] [] := by
  unfold PX12_racing_75 at hP
  unfold FX12_racing_75 at hR
  refine j_iconst (v := 1) C dX12_racing_75 (by decide) ?_
  refine j_goto (tgt := 80) C dX12_racing_76 (by decide) ?_
  exact j_vl (tX12_racing_80 C h x2 x3 1 hP hR) ⟨rfl, rfl, rfl, trivial⟩
def FX12_racing_56  (x1 : Int32) (x2 : Int32) (s0 : Int32) (h : ph_H) : Int32 := if 0 ≤ (h 33 (x1.toNatClampNeg)) then (FX12_racing_75  x2 s0 h) else (if (h 33 (x2.toNatClampNeg)) < 0 then (FX12_racing_80  x2 s0 0 h) else (FX12_racing_75  x2 s0 h))
def PX12_racing_56  (x1 : Int32) (x2 : Int32) (s0 : Int32) (h : ph_H) : Prop := vp_in x1 301 ∧ ((0 ≤ (h 33 (x1.toNatClampNeg)) → (PX12_racing_75  x2 s0 h)) ∧ (¬ 0 ≤ (h 33 (x1.toNatClampNeg)) → (vp_in x2 301 ∧ (((h 33 (x2.toNatClampNeg)) < 0 → (PX12_racing_80  x2 s0 0 h)) ∧ (¬ (h 33 (x2.toNatClampNeg)) < 0 → (PX12_racing_75  x2 s0 h))))))
set_option maxRecDepth 100000 in
set_option maxHeartbeats 4000000 in
theorem tX12_racing_56 {X : fj_X} {Y : fj_Y} {l0 : Launch} {ad : Nat → Nat} (C : FC X Y l0 cX12_racing 5 RX12 ({ frames := 0, cells := 0, slots := 0, locals := 0 } : Room) 0 0 (some .int)) (h : ph_H) (x1 : Int32) (x2 : Int32) (s0 : Int32) (hP : PX12_racing_56  x1 x2 s0 h) (hR : RETp X Y ad 50 SM h cX12_racing (FX12_racing_56  x1 x2 s0 h)) : FJ X Y ad 50 SM h 56 [(0, .ref (ad 0)), (1, .int x1), (2, .int x2)] [.int s0] := by
  unfold PX12_racing_56 at hP
  unfold FX12_racing_56 at hR
  refine j_istore_n C dX12_racing_56 rfl (by decide) rfl ?_
  refine j_aload_n C dX12_racing_57 rfl rfl ?_
  refine gM_108 C dX12_racing_58 ?_
  refine j_iload_n C dX12_racing_61 rfl rfl ?_
  obtain ⟨p4, hP⟩ := hP
  refine j_iald (k := 33) (v := (h 33 (x1.toNatClampNeg))) C dX12_racing_62 (by decide) rfl p4 rfl ?_
  refine j_if_ge (tgt := 75) C dX12_racing_63 (by decide) (fun c0 => ?_) (fun c0 => ?_)
  · have hP := hP.1 c0
    rw [if_pos c0] at hR
    exact j_vl (tX12_racing_75 C h x2 s0 hP hR) ⟨rfl, rfl, rfl, trivial⟩
  · have hP := hP.2 c0
    rw [if_neg c0] at hR
    refine j_aload_n C dX12_racing_66 rfl rfl ?_
    refine gM_108 C dX12_racing_67 ?_
    refine j_iload_n C dX12_racing_70 rfl rfl ?_
    obtain ⟨p3, hP⟩ := hP
    refine j_iald (k := 33) (v := (h 33 (x2.toNatClampNeg))) C dX12_racing_71 (by decide) rfl p3 rfl ?_
    refine j_if_lt (tgt := 79) C dX12_racing_72 (by decide) (fun c1 => ?_) (fun c1 => ?_)
    · have hP := hP.1 c1
      rw [if_pos c1] at hR
      refine j_iconst (v := 0) C dX12_racing_79 (by decide) ?_
      exact j_vl (tX12_racing_80 C h x2 s0 0 hP hR) ⟨rfl, rfl, rfl, trivial⟩
    · have hP := hP.2 c1
      rw [if_neg c1] at hR
      exact j_vl (tX12_racing_75 C h x2 s0 hP hR) ⟨rfl, rfl, rfl, trivial⟩
def FX12_racing (a0 : Int32) (a1 : Int32) (h : ph_H) : Int32 := if (h 29 (a0.toNatClampNeg)) = (h 29 (a1.toNatClampNeg)) then ((-1)) else (if (h 39 (((301 * a0) + a1).toNatClampNeg)) = 0 then (if (h 33 (a0.toNatClampNeg)) < 0 then (FX12_racing_56  a0 a1 (h 32 (a0.toNatClampNeg)) h) else (FX12_racing_56  a0 a1 (h 33 (a0.toNatClampNeg)) h)) else ((-1)))
def PX12_racing (a0 : Int32) (a1 : Int32) (h : ph_H) : Prop := vp_in a0 301 ∧ (vp_in a1 301 ∧ (((h 29 (a0.toNatClampNeg)) = (h 29 (a1.toNatClampNeg)) → (True)) ∧ (¬ (h 29 (a0.toNatClampNeg)) = (h 29 (a1.toNatClampNeg)) → (vp_in ((301 * a0) + a1) 90601 ∧ (((h 39 (((301 * a0) + a1).toNatClampNeg)) = 0 → (vp_in a0 301 ∧ (((h 33 (a0.toNatClampNeg)) < 0 → (vp_in a0 301 ∧ (PX12_racing_56  a0 a1 (h 32 (a0.toNatClampNeg)) h))) ∧ (¬ (h 33 (a0.toNatClampNeg)) < 0 → (vp_in a0 301 ∧ (PX12_racing_56  a0 a1 (h 33 (a0.toNatClampNeg)) h)))))) ∧ (¬ (h 39 (((301 * a0) + a1).toNatClampNeg)) = 0 → (True)))))))
set_option maxRecDepth 100000 in
set_option maxHeartbeats 4000000 in
theorem tX12_racing {X : fj_X} {Y : fj_Y} {l0 : Launch} {ad : Nat → Nat} (C : FC X Y l0 cX12_racing 5 RX12 ({ frames := 0, cells := 0, slots := 0, locals := 0 } : Room) 0 0 (some .int)) (a0 : Int32) (a1 : Int32) (h : ph_H) (hP : PX12_racing a0 a1 h) (hR : RETp X Y ad 50 SM h cX12_racing (FX12_racing a0 a1 h)) : FJ X Y ad 50 SM h 0 [(0, .ref (ad 0)), (1, .int a0), (2, .int a1)] [] := by
  unfold PX12_racing at hP
  unfold FX12_racing at hR
  refine j_aload_n C dX12_racing_0 rfl rfl ?_
  refine gM_96 C dX12_racing_1 ?_
  refine j_iload_n C dX12_racing_4 rfl rfl ?_
  obtain ⟨p3, hP⟩ := hP
  refine j_iald (k := 29) (v := (h 29 (a0.toNatClampNeg))) C dX12_racing_5 (by decide) rfl p3 rfl ?_
  refine j_aload_n C dX12_racing_6 rfl rfl ?_
  refine gM_96 C dX12_racing_7 ?_
  refine j_iload_n C dX12_racing_10 rfl rfl ?_
  obtain ⟨p8, hP⟩ := hP
  refine j_iald (k := 29) (v := (h 29 (a1.toNatClampNeg))) C dX12_racing_11 (by decide) rfl p8 rfl ?_
  refine j_icmp_eq (tgt := 30) C dX12_racing_12 (by decide) (fun c0 => ?_) (fun c0 => ?_)
  · have hP := hP.1 c0
    rw [if_pos c0] at hR
    refine j_iconst (v := (-1)) C dX12_racing_30 (by decide) ?_
    exact hR _ _ dX12_racing_31
  · have hP := hP.2 c0
    rw [if_neg c0] at hR
    refine j_aload_n C dX12_racing_15 rfl rfl ?_
    refine gM_127 C dX12_racing_16 ?_
    refine j_sipush (v := 301) C dX12_racing_19 (by decide) ?_
    refine j_iload_n C dX12_racing_22 rfl rfl ?_
    refine j_imul C dX12_racing_23 ?_
    refine j_iload_n C dX12_racing_24 rfl rfl ?_
    refine j_iadd C dX12_racing_25 ?_
    obtain ⟨p7, hP⟩ := hP
    refine j_zald (k := 39) (v := (h 39 (((301 * a0) + a1).toNatClampNeg))) C dX12_racing_26 (by decide) rfl p7 rfl ?_
    refine j_if_eq (tgt := 32) C dX12_racing_27 (by decide) (fun c1 => ?_) (fun c1 => ?_)
    · have hP := hP.1 c1
      rw [if_pos c1] at hR
      refine j_aload_n C dX12_racing_32 rfl rfl ?_
      refine gM_108 C dX12_racing_33 ?_
      refine j_iload_n C dX12_racing_36 rfl rfl ?_
      obtain ⟨p3, hP⟩ := hP
      refine j_iald (k := 33) (v := (h 33 (a0.toNatClampNeg))) C dX12_racing_37 (by decide) rfl p3 rfl ?_
      refine j_if_lt (tgt := 50) C dX12_racing_38 (by decide) (fun c2 => ?_) (fun c2 => ?_)
      · have hP := hP.1 c2
        rw [if_pos c2] at hR
        refine j_aload_n C dX12_racing_50 rfl rfl ?_
        refine gM_105 C dX12_racing_51 ?_
        refine j_iload_n C dX12_racing_54 rfl rfl ?_
        obtain ⟨p3, hP⟩ := hP
        refine j_iald (k := 32) (v := (h 32 (a0.toNatClampNeg))) C dX12_racing_55 (by decide) rfl p3 rfl ?_
        exact j_vl (tX12_racing_56 C h a0 a1 (h 32 (a0.toNatClampNeg)) hP hR) ⟨rfl, rfl, rfl, trivial⟩
      · have hP := hP.2 c2
        rw [if_neg c2] at hR
        refine j_aload_n C dX12_racing_41 rfl rfl ?_
        refine gM_108 C dX12_racing_42 ?_
        refine j_iload_n C dX12_racing_45 rfl rfl ?_
        obtain ⟨p3, hP⟩ := hP
        refine j_iald (k := 33) (v := (h 33 (a0.toNatClampNeg))) C dX12_racing_46 (by decide) rfl p3 rfl ?_
        refine j_goto (tgt := 56) C dX12_racing_47 (by decide) ?_
        exact j_vl (tX12_racing_56 C h a0 a1 (h 33 (a0.toNatClampNeg)) hP hR) ⟨rfl, rfl, rfl, trivial⟩
    · have hP := hP.2 c1
      rw [if_neg c1] at hR
      refine j_iconst (v := (-1)) C dX12_racing_30 (by decide) ?_
      exact hR _ _ dX12_racing_31
theorem MX12_racing {l0 : Launch} {Y : fj_Y} {ad : Nat → Nat} (a0 : Int32) (a1 : Int32) (h : ph_H) (hP : PX12_racing a0 a1 h) : MI l0 yX12_racing cX12_racing 5 (some .int) ({ frames := 0, cells := 0, slots := 0, locals := 0 } : Room) Y ad 50 SM h [.ref (ad 0), .int a0, .int a1] (fun r S' h' => S' = SM ∧ h' = h ∧ r = FX12_racing a0 a1 h) := met_i (by decide) (Nat.le_of_ble_eq_true rfl) (fun _ _ _ _ => rfl) (fun X C K => j_vl (tX12_racing C a0 a1 h hP (fun pc lv hd => K _ _ _ ⟨rfl, rfl, rfl⟩ pc lv hd)) ⟨rfl, rfl, rfl, trivial⟩)

-- X12_race
def FX12_race_115 (L38 : Int32 → Int32 → Int32 → Int32 → ph_H → Int32 × ph_H) (L50 : Int32 → Int32 → Int32 → Int32 → Int32 → ph_H → Int32 × ph_H) (x1 : Int32) (x2 : Int32) (x4 : Int32) (x5 : Int32) (s0 : Int32) (s1 : Int32) (h : ph_H) : Int32 × ph_H := L50 x1 x2 (s1 + s0) x4 (x5 + 1) h
def PX12_race_115 (LP38 : Int32 → Int32 → Int32 → Int32 → ph_H → Prop) (LP50 : Int32 → Int32 → Int32 → Int32 → Int32 → ph_H → Prop) (x1 : Int32) (x2 : Int32) (x4 : Int32) (x5 : Int32) (s0 : Int32) (s1 : Int32) (h : ph_H) : Prop := LP50 x1 x2 (s1 + s0) x4 (x5 + 1) h
set_option maxRecDepth 100000 in
set_option maxHeartbeats 4000000 in
theorem tX12_race_115 {X : fj_X} {Y : fj_Y} {l0 : Launch} {ad : Nat → Nat} (C : FC X Y l0 cX12_race 7 RX12 ({ frames := 3, cells := 0, slots := 0, locals := 72 } : Room) 0 0 (some .int)) (L38 : Int32 → Int32 → Int32 → Int32 → ph_H → Int32 × ph_H) (LP38 : Int32 → Int32 → Int32 → Int32 → ph_H → Prop) (hL38 : ∀ (x1 : Int32) (x2 : Int32) (x3 : Int32) (x4 : Int32) (h : ph_H), LP38 x1 x2 x3 x4 h → RETi X Y ad 50 SM cX12_race (L38 x1 x2 x3 x4 h) → FJ X Y ad 50 SM h 38 [(0, .ref (ad 0)), (1, .int x1), (2, .int x2), (3, .int x3), (4, .int x4)] []) (L50 : Int32 → Int32 → Int32 → Int32 → Int32 → ph_H → Int32 × ph_H) (LP50 : Int32 → Int32 → Int32 → Int32 → Int32 → ph_H → Prop) (hL50 : ∀ (x1 : Int32) (x2 : Int32) (x3 : Int32) (x4 : Int32) (x5 : Int32) (h : ph_H), LP50 x1 x2 x3 x4 x5 h → RETi X Y ad 50 SM cX12_race (L50 x1 x2 x3 x4 x5 h) → FJ X Y ad 50 SM h 50 [(0, .ref (ad 0)), (1, .int x1), (2, .int x2), (3, .int x3), (4, .int x4), (5, .int x5)] []) (x1 : Int32) (x2 : Int32) (x4 : Int32) (x5 : Int32) (s0 : Int32) (s1 : Int32) (h : ph_H) (hP : PX12_race_115 LP38 LP50 x1 x2 x4 x5 s0 s1 h) (hR : RETi X Y ad 50 SM cX12_race (FX12_race_115 L38 L50 x1 x2 x4 x5 s0 s1 h)) : FJ X Y ad 50 SM h 115 [(0, .ref (ad 0)), (1, .int x1), (2, .int x2), (4, .int x4), (5, .int x5)] [.int s0, .int s1] := by
  unfold PX12_race_115 at hP
  unfold FX12_race_115 at hR
  refine j_iadd C dX12_race_115 ?_
  refine j_istore_n C dX12_race_116 rfl (by decide) rfl ?_
  refine j_iinc (v := (x5 + 1)) C dX12_race_117 rfl rfl (by decide) rfl ?_
  refine j_goto (tgt := 50) C dX12_race_120 (by decide) ?_
  exact j_vl (hL50 x1 x2 (s1 + s0) x4 (x5 + 1) h hP hR) ⟨rfl, rfl, rfl, rfl, rfl, rfl, trivial⟩
def FX12_race_104 (L38 : Int32 → Int32 → Int32 → Int32 → ph_H → Int32 × ph_H) (L50 : Int32 → Int32 → Int32 → Int32 → Int32 → ph_H → Int32 × ph_H) (x1 : Int32) (x2 : Int32) (x3 : Int32) (x4 : Int32) (x5 : Int32) (x6 : Int32) (h : ph_H) : Int32 × ph_H := if x6 < 0 then (FX12_race_115 L38 L50 x1 x2 x4 x5 0 x3 h) else (FX12_race_115 L38 L50 x1 x2 x4 x5 1 x3 h)
def PX12_race_104 (LP38 : Int32 → Int32 → Int32 → Int32 → ph_H → Prop) (LP50 : Int32 → Int32 → Int32 → Int32 → Int32 → ph_H → Prop) (x1 : Int32) (x2 : Int32) (x3 : Int32) (x4 : Int32) (x5 : Int32) (x6 : Int32) (h : ph_H) : Prop := (x6 < 0 → (PX12_race_115 LP38 LP50 x1 x2 x4 x5 0 x3 h)) ∧ (¬ x6 < 0 → (PX12_race_115 LP38 LP50 x1 x2 x4 x5 1 x3 h))
set_option maxRecDepth 100000 in
set_option maxHeartbeats 4000000 in
theorem tX12_race_104 {X : fj_X} {Y : fj_Y} {l0 : Launch} {ad : Nat → Nat} (C : FC X Y l0 cX12_race 7 RX12 ({ frames := 3, cells := 0, slots := 0, locals := 72 } : Room) 0 0 (some .int)) (L38 : Int32 → Int32 → Int32 → Int32 → ph_H → Int32 × ph_H) (LP38 : Int32 → Int32 → Int32 → Int32 → ph_H → Prop) (hL38 : ∀ (x1 : Int32) (x2 : Int32) (x3 : Int32) (x4 : Int32) (h : ph_H), LP38 x1 x2 x3 x4 h → RETi X Y ad 50 SM cX12_race (L38 x1 x2 x3 x4 h) → FJ X Y ad 50 SM h 38 [(0, .ref (ad 0)), (1, .int x1), (2, .int x2), (3, .int x3), (4, .int x4)] []) (L50 : Int32 → Int32 → Int32 → Int32 → Int32 → ph_H → Int32 × ph_H) (LP50 : Int32 → Int32 → Int32 → Int32 → Int32 → ph_H → Prop) (hL50 : ∀ (x1 : Int32) (x2 : Int32) (x3 : Int32) (x4 : Int32) (x5 : Int32) (h : ph_H), LP50 x1 x2 x3 x4 x5 h → RETi X Y ad 50 SM cX12_race (L50 x1 x2 x3 x4 x5 h) → FJ X Y ad 50 SM h 50 [(0, .ref (ad 0)), (1, .int x1), (2, .int x2), (3, .int x3), (4, .int x4), (5, .int x5)] []) (x1 : Int32) (x2 : Int32) (x3 : Int32) (x4 : Int32) (x5 : Int32) (x6 : Int32) (h : ph_H) (hP : PX12_race_104 LP38 LP50 x1 x2 x3 x4 x5 x6 h) (hR : RETi X Y ad 50 SM cX12_race (FX12_race_104 L38 L50 x1 x2 x3 x4 x5 x6 h)) : FJ X Y ad 50 SM h 104 [(0, .ref (ad 0)), (1, .int x1), (2, .int x2), (3, .int x3), (4, .int x4), (5, .int x5), (6, .int x6)] [] := by
  unfold PX12_race_104 at hP
  unfold FX12_race_104 at hR
  refine j_iload_n C dX12_race_104 rfl rfl ?_
  refine j_iload C dX12_race_105 rfl ?_
  refine j_if_lt (tgt := 114) C dX12_race_107 (by decide) (fun c0 => ?_) (fun c0 => ?_)
  · have hP := hP.1 c0
    rw [if_pos c0] at hR
    refine j_iconst (v := 0) C dX12_race_114 (by decide) ?_
    exact j_vl (tX12_race_115 C L38 LP38 hL38 L50 LP50 hL50 x1 x2 x4 x5 0 x3 h hP hR) ⟨rfl, rfl, rfl, rfl, rfl, trivial⟩
  · have hP := hP.2 c0
    rw [if_neg c0] at hR
    refine j_iconst (v := 1) C dX12_race_110 (by decide) ?_
    refine j_goto (tgt := 115) C dX12_race_111 (by decide) ?_
    exact j_vl (tX12_race_115 C L38 LP38 hL38 L50 LP50 hL50 x1 x2 x4 x5 1 x3 h hP hR) ⟨rfl, rfl, rfl, rfl, rfl, trivial⟩
def FX12_race_50 (L38 : Int32 → Int32 → Int32 → Int32 → ph_H → Int32 × ph_H) : Nat → Int32 → Int32 → Int32 → Int32 → Int32 → ph_H → Int32 × ph_H
  | 0, _, _, _, _, _, h => (0, h)
  | q + 1, x1, x2, x3, x4, x5, h => if x4 ≤ x5 then (L38 x1 x2 x3 (x4 + 1) h) else (if (FX12_racing x5 x4 h) < 0 then (FX12_race_104 L38 (FX12_race_50 L38 q) x1 x2 x3 x4 x5 (FX12_racing x5 x4 h) h) else (if x3 = x1 then (if x2 ≤ 0 then (FX12_race_104 L38 (FX12_race_50 L38 q) x1 x2 x3 x4 x5 (FX12_racing x5 x4 h) h) else (if x2 = 1 then ((x5, h)) else (if x2 = 2 then ((x4, h)) else (((FX12_racing x5 x4 h), h))))) else (FX12_race_104 L38 (FX12_race_50 L38 q) x1 x2 x3 x4 x5 (FX12_racing x5 x4 h) h)))
def PX12_race_50 (LP38 : Int32 → Int32 → Int32 → Int32 → ph_H → Prop) : Nat → Int32 → Int32 → Int32 → Int32 → Int32 → ph_H → Prop
  | 0, _, _, _, _, _, _ => False
  | q + 1, x1, x2, x3, x4, x5, h => (x4 ≤ x5 → (LP38 x1 x2 x3 (x4 + 1) h)) ∧ (¬ x4 ≤ x5 → ((PX12_racing x5 x4 h) ∧ (((FX12_racing x5 x4 h) < 0 → (PX12_race_104 LP38 (PX12_race_50 LP38 q) x1 x2 x3 x4 x5 (FX12_racing x5 x4 h) h)) ∧ (¬ (FX12_racing x5 x4 h) < 0 → ((x3 = x1 → ((x2 ≤ 0 → (PX12_race_104 LP38 (PX12_race_50 LP38 q) x1 x2 x3 x4 x5 (FX12_racing x5 x4 h) h)) ∧ (¬ x2 ≤ 0 → ((x2 = 1 → (True)) ∧ (¬ x2 = 1 → ((x2 = 2 → (True)) ∧ (¬ x2 = 2 → (True)))))))) ∧ (¬ x3 = x1 → (PX12_race_104 LP38 (PX12_race_50 LP38 q) x1 x2 x3 x4 x5 (FX12_racing x5 x4 h) h)))))))
set_option maxRecDepth 100000 in
set_option maxHeartbeats 4000000 in
theorem tX12_race_50 {X : fj_X} {Y : fj_Y} {l0 : Launch} {ad : Nat → Nat} (C : FC X Y l0 cX12_race 7 RX12 ({ frames := 3, cells := 0, slots := 0, locals := 72 } : Room) 0 0 (some .int)) (L38 : Int32 → Int32 → Int32 → Int32 → ph_H → Int32 × ph_H) (LP38 : Int32 → Int32 → Int32 → Int32 → ph_H → Prop) (hL38 : ∀ (x1 : Int32) (x2 : Int32) (x3 : Int32) (x4 : Int32) (h : ph_H), LP38 x1 x2 x3 x4 h → RETi X Y ad 50 SM cX12_race (L38 x1 x2 x3 x4 h) → FJ X Y ad 50 SM h 38 [(0, .ref (ad 0)), (1, .int x1), (2, .int x2), (3, .int x3), (4, .int x4)] []) : ∀ (q : Nat) (x1 : Int32) (x2 : Int32) (x3 : Int32) (x4 : Int32) (x5 : Int32) (h : ph_H), PX12_race_50 LP38 q x1 x2 x3 x4 x5 h → RETi X Y ad 50 SM cX12_race (FX12_race_50 L38 q x1 x2 x3 x4 x5 h) → FJ X Y ad 50 SM h 50 [(0, .ref (ad 0)), (1, .int x1), (2, .int x2), (3, .int x3), (4, .int x4), (5, .int x5)] [] := by
  intro q
  induction q with
  | zero =>
    intro x1 x2 x3 x4 x5 h hP hR
    exact absurd hP id
  | succ q ih =>
    intro x1 x2 x3 x4 x5 h hP hR
    unfold PX12_race_50 at hP
    unfold FX12_race_50 at hR
    refine j_iload C dX12_race_50 rfl ?_
    refine j_iload C dX12_race_52 rfl ?_
    refine j_icmp_ge (tgt := 123) C dX12_race_54 (by decide) (fun c0 => ?_) (fun c0 => ?_)
    · have hP := hP.1 c0
      rw [if_pos c0] at hR
      refine j_iinc (v := (x4 + 1)) C dX12_race_123 rfl rfl (by decide) rfl ?_
      refine j_goto (tgt := 38) C dX12_race_126 (by decide) ?_
      exact j_vl (hL38 x1 x2 x3 (x4 + 1) h hP hR) ⟨rfl, rfl, rfl, rfl, rfl, trivial⟩
    · have hP := hP.2 c0
      rw [if_neg c0] at hR
      refine j_aload_n C dX12_race_57 rfl rfl ?_
      refine j_iload C dX12_race_58 rfl ?_
      refine j_iload C dX12_race_60 rfl ?_
      obtain ⟨p3, hP⟩ := hP
      refine j_callV C (MX12_racing x5 x4 h p3) dX12_race_62 (CKX12_racing (by decide)) ⟨rfl, rfl⟩ lk_RX12_337 in_X12_racing se_X12_racing (by decide) rfl rfl rfl (Nat.le_of_ble_eq_true rfl) ?_
      intro r S' h' hq
      obtain ⟨rfl, hh, rfl⟩ := hq
      rw [hh]
      refine j_istore C dX12_race_65 (by decide) rfl ?_
      refine j_iload C dX12_race_67 rfl ?_
      refine j_if_lt (tgt := 104) C dX12_race_69 (by decide) (fun c1 => ?_) (fun c1 => ?_)
      · have hP := hP.1 c1
        rw [if_pos c1] at hR
        exact j_vl (tX12_race_104 C L38 LP38 hL38 (FX12_race_50 L38 q) (PX12_race_50 LP38 q) (ih) x1 x2 x3 x4 x5 (FX12_racing x5 x4 h) h hP hR) ⟨rfl, rfl, rfl, rfl, rfl, rfl, rfl, trivial⟩
      · have hP := hP.2 c1
        rw [if_neg c1] at hR
        refine j_iload_n C dX12_race_72 rfl rfl ?_
        refine j_iload_n C dX12_race_73 rfl rfl ?_
        refine j_icmp_ne (tgt := 104) C dX12_race_74 (by decide) (fun c2 => ?_) (fun c2 => ?_)
        · have hP := hP.2 c2
          rw [if_neg c2] at hR
          exact j_vl (tX12_race_104 C L38 LP38 hL38 (FX12_race_50 L38 q) (PX12_race_50 LP38 q) (ih) x1 x2 x3 x4 x5 (FX12_racing x5 x4 h) h hP hR) ⟨rfl, rfl, rfl, rfl, rfl, rfl, rfl, trivial⟩
        · have hP := hP.1 c2
          rw [if_pos c2] at hR
          refine j_iload_n C dX12_race_77 rfl rfl ?_
          refine j_if_le (tgt := 104) C dX12_race_78 (by decide) (fun c3 => ?_) (fun c3 => ?_)
          · have hP := hP.1 c3
            rw [if_pos c3] at hR
            exact j_vl (tX12_race_104 C L38 LP38 hL38 (FX12_race_50 L38 q) (PX12_race_50 LP38 q) (ih) x1 x2 x3 x4 x5 (FX12_racing x5 x4 h) h hP hR) ⟨rfl, rfl, rfl, rfl, rfl, rfl, rfl, trivial⟩
          · have hP := hP.2 c3
            rw [if_neg c3] at hR
            refine j_iload_n C dX12_race_81 rfl rfl ?_
            refine j_iconst (v := 1) C dX12_race_82 (by decide) ?_
            refine j_icmp_ne (tgt := 91) C dX12_race_83 (by decide) (fun c4 => ?_) (fun c4 => ?_)
            · have hP := hP.2 c4
              rw [if_neg c4] at hR
              refine j_iload_n C dX12_race_91 rfl rfl ?_
              refine j_iconst (v := 2) C dX12_race_92 (by decide) ?_
              refine j_icmp_ne (tgt := 101) C dX12_race_93 (by decide) (fun c5 => ?_) (fun c5 => ?_)
              · have hP := hP.2 c5
                rw [if_neg c5] at hR
                refine j_iload C dX12_race_101 rfl ?_
                exact hR _ _ dX12_race_103
              · have hP := hP.1 c5
                rw [if_pos c5] at hR
                refine j_iload C dX12_race_96 rfl ?_
                refine j_goto (tgt := 103) C dX12_race_98 (by decide) ?_
                exact hR _ _ dX12_race_103
            · have hP := hP.1 c4
              rw [if_pos c4] at hR
              refine j_iload C dX12_race_86 rfl ?_
              refine j_goto (tgt := 103) C dX12_race_88 (by decide) ?_
              exact hR _ _ dX12_race_103
def FX12_race_38  : Nat → Int32 → Int32 → Int32 → Int32 → ph_H → Int32 × ph_H
  | 0, _, _, _, _, h => (0, h)
  | q + 1, x1, x2, x3, x4, h => if (h 0 38) < x4 then (if x2 = 0 then ((x3, h)) else (((-1), h))) else (FX12_race_50 (FX12_race_38  q) 2000 x1 x2 x3 x4 1 h)
def PX12_race_38  : Nat → Int32 → Int32 → Int32 → Int32 → ph_H → Prop
  | 0, _, _, _, _, _ => False
  | q + 1, x1, x2, x3, x4, h => ((h 0 38) < x4 → ((x2 = 0 → (True)) ∧ (¬ x2 = 0 → (True)))) ∧ (¬ (h 0 38) < x4 → (PX12_race_50 (PX12_race_38  q) 2000 x1 x2 x3 x4 1 h))
set_option maxRecDepth 100000 in
set_option maxHeartbeats 4000000 in
theorem tX12_race_38 {X : fj_X} {Y : fj_Y} {l0 : Launch} {ad : Nat → Nat} (C : FC X Y l0 cX12_race 7 RX12 ({ frames := 3, cells := 0, slots := 0, locals := 72 } : Room) 0 0 (some .int)) : ∀ (q : Nat) (x1 : Int32) (x2 : Int32) (x3 : Int32) (x4 : Int32) (h : ph_H), PX12_race_38  q x1 x2 x3 x4 h → RETi X Y ad 50 SM cX12_race (FX12_race_38  q x1 x2 x3 x4 h) → FJ X Y ad 50 SM h 38 [(0, .ref (ad 0)), (1, .int x1), (2, .int x2), (3, .int x3), (4, .int x4)] [] := by
  intro q
  induction q with
  | zero =>
    intro x1 x2 x3 x4 h hP hR
    exact absurd hP id
  | succ q ih =>
    intro x1 x2 x3 x4 h hP hR
    unfold PX12_race_38 at hP
    unfold FX12_race_38 at hR
    refine j_iload C dX12_race_38 rfl ?_
    refine j_aload_n C dX12_race_40 rfl rfl ?_
    refine gM_304 (v := (h 0 38)) C dX12_race_41 rfl ?_
    refine j_icmp_gt (tgt := 129) C dX12_race_44 (by decide) (fun c0 => ?_) (fun c0 => ?_)
    · have hP := hP.1 c0
      rw [if_pos c0] at hR
      refine j_iload_n C dX12_race_129 rfl rfl ?_
      refine j_if_ne (tgt := 137) C dX12_race_130 (by decide) (fun c1 => ?_) (fun c1 => ?_)
      · have hP := hP.2 c1
        rw [if_neg c1] at hR
        refine j_iconst (v := (-1)) C dX12_race_137 (by decide) ?_
        exact hR _ _ dX12_race_138
      · have hP := hP.1 c1
        rw [if_pos c1] at hR
        refine j_iload_n C dX12_race_133 rfl rfl ?_
        refine j_goto (tgt := 138) C dX12_race_134 (by decide) ?_
        exact hR _ _ dX12_race_138
    · have hP := hP.2 c0
      rw [if_neg c0] at hR
      refine j_iconst (v := 1) C dX12_race_47 (by decide) ?_
      refine j_istore C dX12_race_48 (by decide) rfl ?_
      exact j_vl (tX12_race_50 C (FX12_race_38  q) (PX12_race_38  q) (ih) 2000 x1 x2 x3 x4 1 h hP hR) ⟨rfl, rfl, rfl, rfl, rfl, rfl, trivial⟩
def FX12_race_33  (x1 : Int32) (x2 : Int32) (h : ph_H) : Int32 × ph_H := FX12_race_38 2000 x1 x2 0 2 h
def PX12_race_33  (x1 : Int32) (x2 : Int32) (h : ph_H) : Prop := PX12_race_38 2000 x1 x2 0 2 h
set_option maxRecDepth 100000 in
set_option maxHeartbeats 4000000 in
theorem tX12_race_33 {X : fj_X} {Y : fj_Y} {l0 : Launch} {ad : Nat → Nat} (C : FC X Y l0 cX12_race 7 RX12 ({ frames := 3, cells := 0, slots := 0, locals := 72 } : Room) 0 0 (some .int)) (x1 : Int32) (x2 : Int32) (h : ph_H) (hP : PX12_race_33  x1 x2 h) (hR : RETi X Y ad 50 SM cX12_race (FX12_race_33  x1 x2 h)) : FJ X Y ad 50 SM h 33 [(0, .ref (ad 0)), (1, .int x1), (2, .int x2)] [] := by
  unfold PX12_race_33 at hP
  unfold FX12_race_33 at hR
  refine j_iconst (v := 0) C dX12_race_33 (by decide) ?_
  refine j_istore_n C dX12_race_34 rfl (by decide) rfl ?_
  refine j_iconst (v := 2) C dX12_race_35 (by decide) ?_
  refine j_istore C dX12_race_36 (by decide) rfl ?_
  exact j_vl (tX12_race_38 C 2000 x1 x2 0 2 h hP hR) ⟨rfl, rfl, rfl, rfl, rfl, trivial⟩
def FX12_race (a0 : Int32) (a1 : Int32) (h : ph_H) : Int32 × ph_H := if (h 0 36) = 0 then (((-2), (hs h 0 0 0))) else (if (FX12_isIn a1.toInt64 0 3) = 0 then (((-1), (hs h 0 0 0))) else (FX12_race_33  a0 a1 (FX12_findAhead (hs h 0 0 0))))
def PX12_race (a0 : Int32) (a1 : Int32) (h : ph_H) : Prop := ((h 0 36) = 0 → (True)) ∧ (¬ (h 0 36) = 0 → ((PX12_isIn a1.toInt64 0 3) ∧ (((FX12_isIn a1.toInt64 0 3) = 0 → (True)) ∧ (¬ (FX12_isIn a1.toInt64 0 3) = 0 → ((PX12_findAhead (hs h 0 0 0)) ∧ (PX12_race_33  a0 a1 (FX12_findAhead (hs h 0 0 0))))))))
set_option maxRecDepth 100000 in
set_option maxHeartbeats 4000000 in
theorem tX12_race {X : fj_X} {Y : fj_Y} {l0 : Launch} {ad : Nat → Nat} (C : FC X Y l0 cX12_race 7 RX12 ({ frames := 3, cells := 0, slots := 0, locals := 72 } : Room) 0 0 (some .int)) (a0 : Int32) (a1 : Int32) (h : ph_H) (hP : PX12_race a0 a1 h) (hR : RETi X Y ad 50 SM cX12_race (FX12_race a0 a1 h)) : FJ X Y ad 50 SM h 0 [(0, .ref (ad 0)), (1, .int a0), (2, .int a1)] [] := by
  unfold PX12_race at hP
  unfold FX12_race at hR
  refine j_aload_n C dX12_race_0 rfl rfl ?_
  refine j_iconst (v := 0) C dX12_race_1 (by decide) ?_
  refine pM_164 C dX12_race_2 ?_
  refine j_aload_n C dX12_race_5 rfl rfl ?_
  refine gM_294 (v := (h 0 36)) C dX12_race_6 (hz_i (by decide)) ?_
  refine j_if_ne (tgt := 15) C dX12_race_9 (by decide) (fun c0 => ?_) (fun c0 => ?_)
  · have hP := hP.2 c0
    rw [if_neg c0] at hR
    refine j_iload_n C dX12_race_15 rfl rfl ?_
    refine j_i2l C dX12_race_16 ?_
    refine j_lconst (v := 0) C dX12_race_17 (by decide) ?_
    refine j_ldc2 (v := 3) C dX12_race_18 kl_RX12_167 ?_
    obtain ⟨p4, hP⟩ := hP
    refine j_callS C (MX12_isIn a1.toInt64 0 3 (hs h 0 0 0) p4) dX12_race_21 (CKX12_isIn (by decide)) ⟨rfl, rfl⟩ lk_RX12_169 st_X12_isIn rfl (Nat.le_of_ble_eq_true rfl) ?_
    intro r S' h' hq
    obtain ⟨rfl, hh, rfl, hb6⟩ := hq
    rw [hh]
    refine j_if_ne (tgt := 29) C dX12_race_24 (by decide) (fun c1 => ?_) (fun c1 => ?_)
    · have hP := hP.2 c1
      rw [if_neg c1] at hR
      refine j_aload_n C dX12_race_29 rfl rfl ?_
      obtain ⟨p1, hP⟩ := hP
      refine j_callVv C (MX12_findAhead (hs h 0 0 0) p1) dX12_race_30 (CKX12_findAhead (by decide)) ⟨rfl, rfl⟩ lk_RX12_334 in_X12_findAhead se_X12_findAhead (by decide) rfl rfl rfl (Nat.le_of_ble_eq_true rfl) ?_
      intro S' h' hq
      obtain ⟨rfl, rfl⟩ := hq
      exact j_vl (tX12_race_33 C  a0 a1 (FX12_findAhead (hs h 0 0 0)) hP hR) ⟨rfl, rfl, rfl, trivial⟩
    · have hP := hP.1 c1
      rw [if_pos c1] at hR
      refine j_iconst (v := (-1)) C dX12_race_27 (by decide) ?_
      exact hR _ _ dX12_race_28
  · have hP := hP.1 c0
    rw [if_pos c0] at hR
    refine j_bipush (v := (-2)) C dX12_race_12 (by decide) ?_
    exact hR _ _ dX12_race_14
theorem MX12_race {l0 : Launch} {Y : fj_Y} {ad : Nat → Nat} (a0 : Int32) (a1 : Int32) (h : ph_H) (hP : PX12_race a0 a1 h) : MI l0 yX12_race cX12_race 7 (some .int) ({ frames := 3, cells := 0, slots := 0, locals := 72 } : Room) Y ad 50 SM h [.ref (ad 0), .int a0, .int a1] (fun r S' h' => S' = SM ∧ h' = (FX12_race a0 a1 h).2 ∧ r = (FX12_race a0 a1 h).1) := met_i (by decide) (Nat.le_of_ble_eq_true rfl) (fun _ _ _ _ => rfl) (fun X C K => j_vl (tX12_race C a0 a1 h hP (fun pc lv hd => K _ _ _ ⟨rfl, rfl, rfl⟩ pc lv hd)) ⟨rfl, rfl, rfl, trivial⟩)

-- X12_differ
def FX12_differ_117 (L50 : Int32 → Int32 → Int32 → Int32 → ph_H → Int32 × ph_H) (x1 : Int32) (x2 : Int32) (x4 : Int32) (s0 : Int32) (s1 : Int32) (h : ph_H) : Int32 × ph_H := L50 x1 x2 (s1 + s0) (x4 + 1) h
def PX12_differ_117 (LP50 : Int32 → Int32 → Int32 → Int32 → ph_H → Prop) (x1 : Int32) (x2 : Int32) (x4 : Int32) (s0 : Int32) (s1 : Int32) (h : ph_H) : Prop := LP50 x1 x2 (s1 + s0) (x4 + 1) h
set_option maxRecDepth 100000 in
set_option maxHeartbeats 4000000 in
theorem tX12_differ_117 {X : fj_X} {Y : fj_Y} {l0 : Launch} {ad : Nat → Nat} (C : FC X Y l0 cX12_differ 5 RX12 ({ frames := 1, cells := 0, slots := 0, locals := 25 } : Room) 0 0 (some .int)) (L50 : Int32 → Int32 → Int32 → Int32 → ph_H → Int32 × ph_H) (LP50 : Int32 → Int32 → Int32 → Int32 → ph_H → Prop) (hL50 : ∀ (x1 : Int32) (x2 : Int32) (x3 : Int32) (x4 : Int32) (h : ph_H), LP50 x1 x2 x3 x4 h → RETi X Y ad 50 SM cX12_differ (L50 x1 x2 x3 x4 h) → FJ X Y ad 50 SM h 50 [(0, .ref (ad 0)), (1, .int x1), (2, .int x2), (3, .int x3), (4, .int x4)] []) (x1 : Int32) (x2 : Int32) (x4 : Int32) (s0 : Int32) (s1 : Int32) (h : ph_H) (hP : PX12_differ_117 LP50 x1 x2 x4 s0 s1 h) (hR : RETi X Y ad 50 SM cX12_differ (FX12_differ_117 L50 x1 x2 x4 s0 s1 h)) : FJ X Y ad 50 SM h 117 [(0, .ref (ad 0)), (1, .int x1), (2, .int x2), (4, .int x4)] [.int s0, .int s1] := by
  unfold PX12_differ_117 at hP
  unfold FX12_differ_117 at hR
  refine j_iadd C dX12_differ_117 ?_
  refine j_istore_n C dX12_differ_118 rfl (by decide) rfl ?_
  refine j_iinc (v := (x4 + 1)) C dX12_differ_119 rfl rfl (by decide) rfl ?_
  refine j_goto (tgt := 50) C dX12_differ_122 (by decide) ?_
  exact j_vl (hL50 x1 x2 (s1 + s0) (x4 + 1) h hP hR) ⟨rfl, rfl, rfl, rfl, rfl, trivial⟩
def FX12_differ_112 (L50 : Int32 → Int32 → Int32 → Int32 → ph_H → Int32 × ph_H) (x1 : Int32) (x2 : Int32) (x4 : Int32) (s0 : Int32) (h : ph_H) : Int32 × ph_H := FX12_differ_117 L50 x1 x2 x4 1 s0 h
def PX12_differ_112 (LP50 : Int32 → Int32 → Int32 → Int32 → ph_H → Prop) (x1 : Int32) (x2 : Int32) (x4 : Int32) (s0 : Int32) (h : ph_H) : Prop := PX12_differ_117 LP50 x1 x2 x4 1 s0 h
set_option maxRecDepth 100000 in
set_option maxHeartbeats 4000000 in
theorem tX12_differ_112 {X : fj_X} {Y : fj_Y} {l0 : Launch} {ad : Nat → Nat} (C : FC X Y l0 cX12_differ 5 RX12 ({ frames := 1, cells := 0, slots := 0, locals := 25 } : Room) 0 0 (some .int)) (L50 : Int32 → Int32 → Int32 → Int32 → ph_H → Int32 × ph_H) (LP50 : Int32 → Int32 → Int32 → Int32 → ph_H → Prop) (hL50 : ∀ (x1 : Int32) (x2 : Int32) (x3 : Int32) (x4 : Int32) (h : ph_H), LP50 x1 x2 x3 x4 h → RETi X Y ad 50 SM cX12_differ (L50 x1 x2 x3 x4 h) → FJ X Y ad 50 SM h 50 [(0, .ref (ad 0)), (1, .int x1), (2, .int x2), (3, .int x3), (4, .int x4)] []) (x1 : Int32) (x2 : Int32) (x4 : Int32) (s0 : Int32) (h : ph_H) (hP : PX12_differ_112 LP50 x1 x2 x4 s0 h) (hR : RETi X Y ad 50 SM cX12_differ (FX12_differ_112 L50 x1 x2 x4 s0 h)) : FJ X Y ad 50 SM h 112 [(0, .ref (ad 0)), (1, .int x1), (2, .int x2), (4, .int x4)] [.int s0] := by
  unfold PX12_differ_112 at hP
  unfold FX12_differ_112 at hR
  refine j_iconst (v := 1) C dX12_differ_112 (by decide) ?_
  refine j_goto (tgt := 117) C dX12_differ_113 (by decide) ?_
  exact j_vl (tX12_differ_117 C L50 LP50 hL50 x1 x2 x4 1 s0 h hP hR) ⟨rfl, rfl, rfl, rfl, trivial⟩
def FX12_differ_165 (L128 : Int32 → Int32 → Int32 → Int32 → ph_H → Int32 × ph_H) (x1 : Int32) (x2 : Int32) (x4 : Int32) (s0 : Int32) (s1 : Int32) (h : ph_H) : Int32 × ph_H := L128 x1 x2 (s1 + s0) (x4 + 1) h
def PX12_differ_165 (LP128 : Int32 → Int32 → Int32 → Int32 → ph_H → Prop) (x1 : Int32) (x2 : Int32) (x4 : Int32) (s0 : Int32) (s1 : Int32) (h : ph_H) : Prop := LP128 x1 x2 (s1 + s0) (x4 + 1) h
set_option maxRecDepth 100000 in
set_option maxHeartbeats 4000000 in
theorem tX12_differ_165 {X : fj_X} {Y : fj_Y} {l0 : Launch} {ad : Nat → Nat} (C : FC X Y l0 cX12_differ 5 RX12 ({ frames := 1, cells := 0, slots := 0, locals := 25 } : Room) 0 0 (some .int)) (L128 : Int32 → Int32 → Int32 → Int32 → ph_H → Int32 × ph_H) (LP128 : Int32 → Int32 → Int32 → Int32 → ph_H → Prop) (hL128 : ∀ (x1 : Int32) (x2 : Int32) (x3 : Int32) (x4 : Int32) (h : ph_H), LP128 x1 x2 x3 x4 h → RETi X Y ad 50 SM cX12_differ (L128 x1 x2 x3 x4 h) → FJ X Y ad 50 SM h 128 [(0, .ref (ad 0)), (1, .int x1), (2, .int x2), (3, .int x3), (4, .int x4)] []) (x1 : Int32) (x2 : Int32) (x4 : Int32) (s0 : Int32) (s1 : Int32) (h : ph_H) (hP : PX12_differ_165 LP128 x1 x2 x4 s0 s1 h) (hR : RETi X Y ad 50 SM cX12_differ (FX12_differ_165 L128 x1 x2 x4 s0 s1 h)) : FJ X Y ad 50 SM h 165 [(0, .ref (ad 0)), (1, .int x1), (2, .int x2), (4, .int x4)] [.int s0, .int s1] := by
  unfold PX12_differ_165 at hP
  unfold FX12_differ_165 at hR
  refine j_iadd C dX12_differ_165 ?_
  refine j_istore_n C dX12_differ_166 rfl (by decide) rfl ?_
  refine j_iinc (v := (x4 + 1)) C dX12_differ_167 rfl rfl (by decide) rfl ?_
  refine j_goto (tgt := 128) C dX12_differ_170 (by decide) ?_
  exact j_vl (hL128 x1 x2 (s1 + s0) (x4 + 1) h hP hR) ⟨rfl, rfl, rfl, rfl, rfl, trivial⟩
def FX12_differ_128  : Nat → Int32 → Int32 → Int32 → Int32 → ph_H → Int32 × ph_H
  | 0, _, _, _, _, h => (0, h)
  | q + 1, x1, x2, x3, x4, h => if 4 ≤ x4 then ((x3, h)) else (if (h 22 (((4 * x1) + x4).toNatClampNeg)) = (h 22 (((4 * x2) + x4).toNatClampNeg)) then (FX12_differ_165 (FX12_differ_128  q) x1 x2 x4 0 x3 h) else (FX12_differ_165 (FX12_differ_128  q) x1 x2 x4 1 x3 h))
def PX12_differ_128  : Nat → Int32 → Int32 → Int32 → Int32 → ph_H → Prop
  | 0, _, _, _, _, _ => False
  | q + 1, x1, x2, x3, x4, h => (4 ≤ x4 → (True)) ∧ (¬ 4 ≤ x4 → (vp_in ((4 * x1) + x4) 1204 ∧ (vp_in ((4 * x2) + x4) 1204 ∧ (((h 22 (((4 * x1) + x4).toNatClampNeg)) = (h 22 (((4 * x2) + x4).toNatClampNeg)) → (PX12_differ_165 (PX12_differ_128  q) x1 x2 x4 0 x3 h)) ∧ (¬ (h 22 (((4 * x1) + x4).toNatClampNeg)) = (h 22 (((4 * x2) + x4).toNatClampNeg)) → (PX12_differ_165 (PX12_differ_128  q) x1 x2 x4 1 x3 h))))))
set_option maxRecDepth 100000 in
set_option maxHeartbeats 4000000 in
theorem tX12_differ_128 {X : fj_X} {Y : fj_Y} {l0 : Launch} {ad : Nat → Nat} (C : FC X Y l0 cX12_differ 5 RX12 ({ frames := 1, cells := 0, slots := 0, locals := 25 } : Room) 0 0 (some .int)) : ∀ (q : Nat) (x1 : Int32) (x2 : Int32) (x3 : Int32) (x4 : Int32) (h : ph_H), PX12_differ_128  q x1 x2 x3 x4 h → RETi X Y ad 50 SM cX12_differ (FX12_differ_128  q x1 x2 x3 x4 h) → FJ X Y ad 50 SM h 128 [(0, .ref (ad 0)), (1, .int x1), (2, .int x2), (3, .int x3), (4, .int x4)] [] := by
  intro q
  induction q with
  | zero =>
    intro x1 x2 x3 x4 h hP hR
    exact absurd hP id
  | succ q ih =>
    intro x1 x2 x3 x4 h hP hR
    unfold PX12_differ_128 at hP
    unfold FX12_differ_128 at hR
    refine j_iload C dX12_differ_128 rfl ?_
    refine j_iconst (v := 4) C dX12_differ_130 (by decide) ?_
    refine j_icmp_ge (tgt := 173) C dX12_differ_131 (by decide) (fun c0 => ?_) (fun c0 => ?_)
    · have hP := hP.1 c0
      rw [if_pos c0] at hR
      refine j_iload_n C dX12_differ_173 rfl rfl ?_
      exact hR _ _ dX12_differ_174
    · have hP := hP.2 c0
      rw [if_neg c0] at hR
      refine j_iload_n C dX12_differ_134 rfl rfl ?_
      refine j_aload_n C dX12_differ_135 rfl rfl ?_
      refine gM_74 C dX12_differ_136 ?_
      refine j_iconst (v := 4) C dX12_differ_139 (by decide) ?_
      refine j_iload_n C dX12_differ_140 rfl rfl ?_
      refine j_imul C dX12_differ_141 ?_
      refine j_iload C dX12_differ_142 rfl ?_
      refine j_iadd C dX12_differ_144 ?_
      obtain ⟨p8, hP⟩ := hP
      refine j_iald (k := 22) (v := (h 22 (((4 * x1) + x4).toNatClampNeg))) C dX12_differ_145 (by decide) rfl p8 rfl ?_
      refine j_aload_n C dX12_differ_146 rfl rfl ?_
      refine gM_74 C dX12_differ_147 ?_
      refine j_iconst (v := 4) C dX12_differ_150 (by decide) ?_
      refine j_iload_n C dX12_differ_151 rfl rfl ?_
      refine j_imul C dX12_differ_152 ?_
      refine j_iload C dX12_differ_153 rfl ?_
      refine j_iadd C dX12_differ_155 ?_
      obtain ⟨p17, hP⟩ := hP
      refine j_iald (k := 22) (v := (h 22 (((4 * x2) + x4).toNatClampNeg))) C dX12_differ_156 (by decide) rfl p17 rfl ?_
      refine j_icmp_eq (tgt := 164) C dX12_differ_157 (by decide) (fun c1 => ?_) (fun c1 => ?_)
      · have hP := hP.1 c1
        rw [if_pos c1] at hR
        refine j_iconst (v := 0) C dX12_differ_164 (by decide) ?_
        exact j_vl (tX12_differ_165 C (FX12_differ_128  q) (PX12_differ_128  q) (ih) x1 x2 x4 0 x3 h hP hR) ⟨rfl, rfl, rfl, rfl, trivial⟩
      · have hP := hP.2 c1
        rw [if_neg c1] at hR
        refine j_iconst (v := 1) C dX12_differ_160 (by decide) ?_
        refine j_goto (tgt := 165) C dX12_differ_161 (by decide) ?_
        exact j_vl (tX12_differ_165 C (FX12_differ_128  q) (PX12_differ_128  q) (ih) x1 x2 x4 1 x3 h hP hR) ⟨rfl, rfl, rfl, rfl, trivial⟩
def FX12_differ_50  : Nat → Int32 → Int32 → Int32 → Int32 → ph_H → Int32 × ph_H
  | 0, _, _, _, _, h => (0, h)
  | q + 1, x1, x2, x3, x4, h => if 28 ≤ x4 then (FX12_differ_128 2000 x1 x2 x3 0 h) else (if (h 20 (((28 * x1) + x4).toNatClampNeg)) = (h 20 (((28 * x2) + x4).toNatClampNeg)) then (if (h 21 (((28 * x1) + x4).toNatClampNeg)) = (h 21 (((28 * x2) + x4).toNatClampNeg)) then (FX12_differ_117 (FX12_differ_50  q) x1 x2 x4 0 x3 h) else (FX12_differ_112 (FX12_differ_50  q) x1 x2 x4 x3 h)) else (FX12_differ_112 (FX12_differ_50  q) x1 x2 x4 x3 h))
def PX12_differ_50  : Nat → Int32 → Int32 → Int32 → Int32 → ph_H → Prop
  | 0, _, _, _, _, _ => False
  | q + 1, x1, x2, x3, x4, h => (28 ≤ x4 → (PX12_differ_128 2000 x1 x2 x3 0 h)) ∧ (¬ 28 ≤ x4 → (vp_in ((28 * x1) + x4) 8428 ∧ (vp_in ((28 * x2) + x4) 8428 ∧ (((h 20 (((28 * x1) + x4).toNatClampNeg)) = (h 20 (((28 * x2) + x4).toNatClampNeg)) → (vp_in ((28 * x1) + x4) 8428 ∧ (vp_in ((28 * x2) + x4) 8428 ∧ (((h 21 (((28 * x1) + x4).toNatClampNeg)) = (h 21 (((28 * x2) + x4).toNatClampNeg)) → (PX12_differ_117 (PX12_differ_50  q) x1 x2 x4 0 x3 h)) ∧ (¬ (h 21 (((28 * x1) + x4).toNatClampNeg)) = (h 21 (((28 * x2) + x4).toNatClampNeg)) → (PX12_differ_112 (PX12_differ_50  q) x1 x2 x4 x3 h)))))) ∧ (¬ (h 20 (((28 * x1) + x4).toNatClampNeg)) = (h 20 (((28 * x2) + x4).toNatClampNeg)) → (PX12_differ_112 (PX12_differ_50  q) x1 x2 x4 x3 h))))))
set_option maxRecDepth 100000 in
set_option maxHeartbeats 4000000 in
theorem tX12_differ_50 {X : fj_X} {Y : fj_Y} {l0 : Launch} {ad : Nat → Nat} (C : FC X Y l0 cX12_differ 5 RX12 ({ frames := 1, cells := 0, slots := 0, locals := 25 } : Room) 0 0 (some .int)) : ∀ (q : Nat) (x1 : Int32) (x2 : Int32) (x3 : Int32) (x4 : Int32) (h : ph_H), PX12_differ_50  q x1 x2 x3 x4 h → RETi X Y ad 50 SM cX12_differ (FX12_differ_50  q x1 x2 x3 x4 h) → FJ X Y ad 50 SM h 50 [(0, .ref (ad 0)), (1, .int x1), (2, .int x2), (3, .int x3), (4, .int x4)] [] := by
  intro q
  induction q with
  | zero =>
    intro x1 x2 x3 x4 h hP hR
    exact absurd hP id
  | succ q ih =>
    intro x1 x2 x3 x4 h hP hR
    unfold PX12_differ_50 at hP
    unfold FX12_differ_50 at hR
    refine j_iload C dX12_differ_50 rfl ?_
    refine j_bipush (v := 28) C dX12_differ_52 (by decide) ?_
    refine j_icmp_ge (tgt := 125) C dX12_differ_54 (by decide) (fun c0 => ?_) (fun c0 => ?_)
    · have hP := hP.1 c0
      rw [if_pos c0] at hR
      refine j_iconst (v := 0) C dX12_differ_125 (by decide) ?_
      refine j_istore C dX12_differ_126 (by decide) rfl ?_
      exact j_vl (tX12_differ_128 C 2000 x1 x2 x3 0 h hP hR) ⟨rfl, rfl, rfl, rfl, rfl, trivial⟩
    · have hP := hP.2 c0
      rw [if_neg c0] at hR
      refine j_iload_n C dX12_differ_57 rfl rfl ?_
      refine j_aload_n C dX12_differ_58 rfl rfl ?_
      refine gM_68 C dX12_differ_59 ?_
      refine j_bipush (v := 28) C dX12_differ_62 (by decide) ?_
      refine j_iload_n C dX12_differ_64 rfl rfl ?_
      refine j_imul C dX12_differ_65 ?_
      refine j_iload C dX12_differ_66 rfl ?_
      refine j_iadd C dX12_differ_68 ?_
      obtain ⟨p8, hP⟩ := hP
      refine j_iald (k := 20) (v := (h 20 (((28 * x1) + x4).toNatClampNeg))) C dX12_differ_69 (by decide) rfl p8 rfl ?_
      refine j_aload_n C dX12_differ_70 rfl rfl ?_
      refine gM_68 C dX12_differ_71 ?_
      refine j_bipush (v := 28) C dX12_differ_74 (by decide) ?_
      refine j_iload_n C dX12_differ_76 rfl rfl ?_
      refine j_imul C dX12_differ_77 ?_
      refine j_iload C dX12_differ_78 rfl ?_
      refine j_iadd C dX12_differ_80 ?_
      obtain ⟨p17, hP⟩ := hP
      refine j_iald (k := 20) (v := (h 20 (((28 * x2) + x4).toNatClampNeg))) C dX12_differ_81 (by decide) rfl p17 rfl ?_
      refine j_icmp_ne (tgt := 112) C dX12_differ_82 (by decide) (fun c1 => ?_) (fun c1 => ?_)
      · have hP := hP.2 c1
        rw [if_neg c1] at hR
        exact j_vl (tX12_differ_112 C (FX12_differ_50  q) (PX12_differ_50  q) (ih) x1 x2 x4 x3 h hP hR) ⟨rfl, rfl, rfl, rfl, trivial⟩
      · have hP := hP.1 c1
        rw [if_pos c1] at hR
        refine j_aload_n C dX12_differ_85 rfl rfl ?_
        refine gM_71 C dX12_differ_86 ?_
        refine j_bipush (v := 28) C dX12_differ_89 (by decide) ?_
        refine j_iload_n C dX12_differ_91 rfl rfl ?_
        refine j_imul C dX12_differ_92 ?_
        refine j_iload C dX12_differ_93 rfl ?_
        refine j_iadd C dX12_differ_95 ?_
        obtain ⟨p7, hP⟩ := hP
        refine j_iald (k := 21) (v := (h 21 (((28 * x1) + x4).toNatClampNeg))) C dX12_differ_96 (by decide) rfl p7 rfl ?_
        refine j_aload_n C dX12_differ_97 rfl rfl ?_
        refine gM_71 C dX12_differ_98 ?_
        refine j_bipush (v := 28) C dX12_differ_101 (by decide) ?_
        refine j_iload_n C dX12_differ_103 rfl rfl ?_
        refine j_imul C dX12_differ_104 ?_
        refine j_iload C dX12_differ_105 rfl ?_
        refine j_iadd C dX12_differ_107 ?_
        obtain ⟨p16, hP⟩ := hP
        refine j_iald (k := 21) (v := (h 21 (((28 * x2) + x4).toNatClampNeg))) C dX12_differ_108 (by decide) rfl p16 rfl ?_
        refine j_icmp_eq (tgt := 116) C dX12_differ_109 (by decide) (fun c2 => ?_) (fun c2 => ?_)
        · have hP := hP.1 c2
          rw [if_pos c2] at hR
          refine j_iconst (v := 0) C dX12_differ_116 (by decide) ?_
          exact j_vl (tX12_differ_117 C (FX12_differ_50  q) (PX12_differ_50  q) (ih) x1 x2 x4 0 x3 h hP hR) ⟨rfl, rfl, rfl, rfl, trivial⟩
        · have hP := hP.2 c2
          rw [if_neg c2] at hR
          exact j_vl (tX12_differ_112 C (FX12_differ_50  q) (PX12_differ_50  q) (ih) x1 x2 x4 x3 h hP hR) ⟨rfl, rfl, rfl, rfl, trivial⟩
def FX12_differ (a0 : Int32) (a1 : Int32) (h : ph_H) : Int32 × ph_H := if (h 0 36) = 0 then (((-2), (hs h 0 0 0))) else (if (FX12_isIn a0.toInt64 0 ((h 0 38).toInt64)) = 0 then (((-1), (hs h 0 0 0))) else (if (FX12_isIn a1.toInt64 0 ((h 0 38).toInt64)) = 0 then (((-1), (hs h 0 0 0))) else (FX12_differ_50 2000 a0 a1 0 0 (hs h 0 0 0))))
def PX12_differ (a0 : Int32) (a1 : Int32) (h : ph_H) : Prop := ((h 0 36) = 0 → (True)) ∧ (¬ (h 0 36) = 0 → ((PX12_isIn a0.toInt64 0 ((h 0 38).toInt64)) ∧ (((FX12_isIn a0.toInt64 0 ((h 0 38).toInt64)) = 0 → (True)) ∧ (¬ (FX12_isIn a0.toInt64 0 ((h 0 38).toInt64)) = 0 → ((PX12_isIn a1.toInt64 0 ((h 0 38).toInt64)) ∧ (((FX12_isIn a1.toInt64 0 ((h 0 38).toInt64)) = 0 → (True)) ∧ (¬ (FX12_isIn a1.toInt64 0 ((h 0 38).toInt64)) = 0 → (PX12_differ_50 2000 a0 a1 0 0 (hs h 0 0 0)))))))))
set_option maxRecDepth 100000 in
set_option maxHeartbeats 4000000 in
theorem tX12_differ {X : fj_X} {Y : fj_Y} {l0 : Launch} {ad : Nat → Nat} (C : FC X Y l0 cX12_differ 5 RX12 ({ frames := 1, cells := 0, slots := 0, locals := 25 } : Room) 0 0 (some .int)) (a0 : Int32) (a1 : Int32) (h : ph_H) (hP : PX12_differ a0 a1 h) (hR : RETi X Y ad 50 SM cX12_differ (FX12_differ a0 a1 h)) : FJ X Y ad 50 SM h 0 [(0, .ref (ad 0)), (1, .int a0), (2, .int a1)] [] := by
  unfold PX12_differ at hP
  unfold FX12_differ at hR
  refine j_aload_n C dX12_differ_0 rfl rfl ?_
  refine j_iconst (v := 0) C dX12_differ_1 (by decide) ?_
  refine pM_164 C dX12_differ_2 ?_
  refine j_aload_n C dX12_differ_5 rfl rfl ?_
  refine gM_294 (v := (h 0 36)) C dX12_differ_6 (hz_i (by decide)) ?_
  refine j_if_ne (tgt := 15) C dX12_differ_9 (by decide) (fun c0 => ?_) (fun c0 => ?_)
  · have hP := hP.2 c0
    rw [if_neg c0] at hR
    refine j_iload_n C dX12_differ_15 rfl rfl ?_
    refine j_i2l C dX12_differ_16 ?_
    refine j_lconst (v := 0) C dX12_differ_17 (by decide) ?_
    refine j_aload_n C dX12_differ_18 rfl rfl ?_
    refine gM_304 (v := (h 0 38)) C dX12_differ_19 (hz_i (by decide)) ?_
    refine j_i2l C dX12_differ_22 ?_
    obtain ⟨p6, hP⟩ := hP
    refine j_callS C (MX12_isIn a0.toInt64 0 ((h 0 38).toInt64) (hs h 0 0 0) p6) dX12_differ_23 (CKX12_isIn (by decide)) ⟨rfl, rfl⟩ lk_RX12_169 st_X12_isIn rfl (Nat.le_of_ble_eq_true rfl) ?_
    intro r S' h' hq
    obtain ⟨rfl, hh, rfl, hb8⟩ := hq
    rw [hh]
    refine j_if_eq (tgt := 43) C dX12_differ_26 (by decide) (fun c1 => ?_) (fun c1 => ?_)
    · have hP := hP.1 c1
      rw [if_pos c1] at hR
      refine j_iconst (v := (-1)) C dX12_differ_43 (by decide) ?_
      exact hR _ _ dX12_differ_44
    · have hP := hP.2 c1
      rw [if_neg c1] at hR
      refine j_iload_n C dX12_differ_29 rfl rfl ?_
      refine j_i2l C dX12_differ_30 ?_
      refine j_lconst (v := 0) C dX12_differ_31 (by decide) ?_
      refine j_aload_n C dX12_differ_32 rfl rfl ?_
      refine gM_304 (v := (h 0 38)) C dX12_differ_33 (hz_i (by decide)) ?_
      refine j_i2l C dX12_differ_36 ?_
      obtain ⟨p6, hP⟩ := hP
      refine j_callS C (MX12_isIn a1.toInt64 0 ((h 0 38).toInt64) (hs h 0 0 0) p6) dX12_differ_37 (CKX12_isIn (by decide)) ⟨rfl, rfl⟩ lk_RX12_169 st_X12_isIn rfl (Nat.le_of_ble_eq_true rfl) ?_
      intro r S' h' hq
      obtain ⟨rfl, hh, rfl, hb8⟩ := hq
      rw [hh]
      refine j_if_ne (tgt := 45) C dX12_differ_40 (by decide) (fun c2 => ?_) (fun c2 => ?_)
      · have hP := hP.2 c2
        rw [if_neg c2] at hR
        refine j_iconst (v := 0) C dX12_differ_45 (by decide) ?_
        refine j_istore_n C dX12_differ_46 rfl (by decide) rfl ?_
        refine j_iconst (v := 0) C dX12_differ_47 (by decide) ?_
        refine j_istore C dX12_differ_48 (by decide) rfl ?_
        exact j_vl (tX12_differ_50 C 2000 a0 a1 0 0 (hs h 0 0 0) hP hR) ⟨rfl, rfl, rfl, rfl, rfl, trivial⟩
      · have hP := hP.1 c2
        rw [if_pos c2] at hR
        refine j_iconst (v := (-1)) C dX12_differ_43 (by decide) ?_
        exact hR _ _ dX12_differ_44
  · have hP := hP.1 c0
    rw [if_pos c0] at hR
    refine j_bipush (v := (-2)) C dX12_differ_12 (by decide) ?_
    exact hR _ _ dX12_differ_14
theorem MX12_differ {l0 : Launch} {Y : fj_Y} {ad : Nat → Nat} (a0 : Int32) (a1 : Int32) (h : ph_H) (hP : PX12_differ a0 a1 h) : MI l0 yX12_differ cX12_differ 5 (some .int) ({ frames := 1, cells := 0, slots := 0, locals := 25 } : Room) Y ad 50 SM h [.ref (ad 0), .int a0, .int a1] (fun r S' h' => S' = SM ∧ h' = (FX12_differ a0 a1 h).2 ∧ r = (FX12_differ a0 a1 h).1) := met_i (by decide) (Nat.le_of_ble_eq_true rfl) (fun _ _ _ _ => rfl) (fun X C K => j_vl (tX12_differ C a0 a1 h hP (fun pc lv hd => K _ _ _ ⟨rfl, rfl, rfl⟩ pc lv hd)) ⟨rfl, rfl, rfl, trivial⟩)

-- X12_tryRun
def FX12_tryRun_38 (L12 : Int32 → Int32 → ph_H → Int32 × ph_H) (x1 : Int32) (h : ph_H) : Int32 × ph_H := if (h 0 74) ≤ x1 then (L12 x1 (FX12_free (h 0 26) h) h) else (if (h 0 24) = (h 42 (x1.toNatClampNeg)) then (if 0 < (h 0 25) then ((0, h)) else (if (h 0 24) = 300 then ((0, h)) else (if (FX12_free (h 0 26) h) < 0 then ((0, h)) else (if (h 43 (x1.toNatClampNeg)) = (FX12_free (h 0 26) h) then ((0, h)) else (if (FX12_canGo (h 43 (x1.toNatClampNeg)) h) = 0 then ((0, h)) else (L12 (x1 + 1) (h 43 (x1.toNatClampNeg)) h)))))) else (L12 x1 (FX12_free (h 0 26) h) h))
def PX12_tryRun_38 (LP12 : Int32 → Int32 → ph_H → Prop) (x1 : Int32) (h : ph_H) : Prop := (PX12_free (h 0 26) h) ∧ (((h 0 74) ≤ x1 → (LP12 x1 (FX12_free (h 0 26) h) h)) ∧ (¬ (h 0 74) ≤ x1 → (vp_in x1 2 ∧ (((h 0 24) = (h 42 (x1.toNatClampNeg)) → ((0 < (h 0 25) → (True)) ∧ (¬ 0 < (h 0 25) → (((h 0 24) = 300 → (True)) ∧ (¬ (h 0 24) = 300 → (((FX12_free (h 0 26) h) < 0 → (True)) ∧ (¬ (FX12_free (h 0 26) h) < 0 → (vp_in x1 2 ∧ (((h 43 (x1.toNatClampNeg)) = (FX12_free (h 0 26) h) → (True)) ∧ (¬ (h 43 (x1.toNatClampNeg)) = (FX12_free (h 0 26) h) → (vp_in x1 2 ∧ ((PX12_canGo (h 43 (x1.toNatClampNeg)) h) ∧ (((FX12_canGo (h 43 (x1.toNatClampNeg)) h) = 0 → (True)) ∧ (¬ (FX12_canGo (h 43 (x1.toNatClampNeg)) h) = 0 → (vp_in x1 2 ∧ (LP12 (x1 + 1) (h 43 (x1.toNatClampNeg)) h)))))))))))))))) ∧ (¬ (h 0 24) = (h 42 (x1.toNatClampNeg)) → (LP12 x1 (FX12_free (h 0 26) h) h))))))
set_option maxRecDepth 100000 in
set_option maxHeartbeats 4000000 in
theorem tX12_tryRun_38 {X : fj_X} {Y : fj_Y} {l0 : Launch} {ad : Nat → Nat} (C : FC X Y l0 cX12_tryRun 3 RX12 ({ frames := 4, cells := 0, slots := 0, locals := 100 } : Room) 0 0 (some .boolean)) (L12 : Int32 → Int32 → ph_H → Int32 × ph_H) (LP12 : Int32 → Int32 → ph_H → Prop) (hL12 : ∀ (x1 : Int32) (x2 : Int32) (h : ph_H), LP12 x1 x2 h → RETz X Y ad 50 SM cX12_tryRun (L12 x1 x2 h) → FJ X Y ad 50 SM h 12 [(0, .ref (ad 0)), (1, .int x1), (2, .int x2)] []) (x1 : Int32) (h : ph_H) (hP : PX12_tryRun_38 LP12 x1 h) (hR : RETz X Y ad 50 SM cX12_tryRun (FX12_tryRun_38 L12 x1 h)) : FJ X Y ad 50 SM h 38 [(0, .ref (ad 0)), (1, .int x1)] [] := by
  unfold PX12_tryRun_38 at hP
  unfold FX12_tryRun_38 at hR
  refine j_aload_n C dX12_tryRun_38 rfl rfl ?_
  refine j_aload_n C dX12_tryRun_39 rfl rfl ?_
  refine gM_197 (v := (h 0 26)) C dX12_tryRun_40 rfl ?_
  obtain ⟨p3, hP⟩ := hP
  refine j_callV C (MX12_free (h 0 26) h p3) dX12_tryRun_43 (CKX12_free (by decide)) ⟨rfl, rfl⟩ lk_RX12_282 in_X12_free se_X12_free (by decide) rfl rfl rfl (Nat.le_of_ble_eq_true rfl) ?_
  intro r S' h' hq
  obtain ⟨rfl, hh, rfl⟩ := hq
  rw [hh]
  refine j_istore_n C dX12_tryRun_46 rfl (by decide) rfl ?_
  refine j_iload_n C dX12_tryRun_47 rfl rfl ?_
  refine j_aload_n C dX12_tryRun_48 rfl rfl ?_
  refine gM_340 (v := (h 0 74)) C dX12_tryRun_49 rfl ?_
  refine j_icmp_ge (tgt := 12) C dX12_tryRun_52 (by decide) (fun c0 => ?_) (fun c0 => ?_)
  · have hP := hP.1 c0
    rw [if_pos c0] at hR
    exact j_vl (hL12 x1 (FX12_free (h 0 26) h) h hP hR) ⟨rfl, rfl, rfl, trivial⟩
  · have hP := hP.2 c0
    rw [if_neg c0] at hR
    refine j_aload_n C dX12_tryRun_55 rfl rfl ?_
    refine gM_191 (v := (h 0 24)) C dX12_tryRun_56 rfl ?_
    refine j_aload_n C dX12_tryRun_59 rfl rfl ?_
    refine gM_140 C dX12_tryRun_60 ?_
    refine j_iload_n C dX12_tryRun_63 rfl rfl ?_
    obtain ⟨p5, hP⟩ := hP
    refine j_iald (k := 42) (v := (h 42 (x1.toNatClampNeg))) C dX12_tryRun_64 (by decide) rfl p5 rfl ?_
    refine j_icmp_ne (tgt := 12) C dX12_tryRun_65 (by decide) (fun c1 => ?_) (fun c1 => ?_)
    · have hP := hP.2 c1
      rw [if_neg c1] at hR
      exact j_vl (hL12 x1 (FX12_free (h 0 26) h) h hP hR) ⟨rfl, rfl, rfl, trivial⟩
    · have hP := hP.1 c1
      rw [if_pos c1] at hR
      refine j_aload_n C dX12_tryRun_68 rfl rfl ?_
      refine gM_194 (v := (h 0 25)) C dX12_tryRun_69 rfl ?_
      refine j_if_gt (tgt := 112) C dX12_tryRun_72 (by decide) (fun c2 => ?_) (fun c2 => ?_)
      · have hP := hP.1 c2
        rw [if_pos c2] at hR
        refine j_iconst (v := 0) C dX12_tryRun_112 (by decide) ?_
        exact hR bo_0 _ _ dX12_tryRun_113
      · have hP := hP.2 c2
        rw [if_neg c2] at hR
        refine j_aload_n C dX12_tryRun_75 rfl rfl ?_
        refine gM_191 (v := (h 0 24)) C dX12_tryRun_76 rfl ?_
        refine j_sipush (v := 300) C dX12_tryRun_79 (by decide) ?_
        refine j_icmp_eq (tgt := 112) C dX12_tryRun_82 (by decide) (fun c3 => ?_) (fun c3 => ?_)
        · have hP := hP.1 c3
          rw [if_pos c3] at hR
          refine j_iconst (v := 0) C dX12_tryRun_112 (by decide) ?_
          exact hR bo_0 _ _ dX12_tryRun_113
        · have hP := hP.2 c3
          rw [if_neg c3] at hR
          refine j_iload_n C dX12_tryRun_85 rfl rfl ?_
          refine j_if_lt (tgt := 112) C dX12_tryRun_86 (by decide) (fun c4 => ?_) (fun c4 => ?_)
          · have hP := hP.1 c4
            rw [if_pos c4] at hR
            refine j_iconst (v := 0) C dX12_tryRun_112 (by decide) ?_
            exact hR bo_0 _ _ dX12_tryRun_113
          · have hP := hP.2 c4
            rw [if_neg c4] at hR
            refine j_aload_n C dX12_tryRun_89 rfl rfl ?_
            refine gM_143 C dX12_tryRun_90 ?_
            refine j_iload_n C dX12_tryRun_93 rfl rfl ?_
            obtain ⟨p3, hP⟩ := hP
            refine j_iald (k := 43) (v := (h 43 (x1.toNatClampNeg))) C dX12_tryRun_94 (by decide) rfl p3 rfl ?_
            refine j_iload_n C dX12_tryRun_95 rfl rfl ?_
            refine j_icmp_eq (tgt := 112) C dX12_tryRun_96 (by decide) (fun c5 => ?_) (fun c5 => ?_)
            · have hP := hP.1 c5
              rw [if_pos c5] at hR
              refine j_iconst (v := 0) C dX12_tryRun_112 (by decide) ?_
              exact hR bo_0 _ _ dX12_tryRun_113
            · have hP := hP.2 c5
              rw [if_neg c5] at hR
              refine j_aload_n C dX12_tryRun_99 rfl rfl ?_
              refine j_aload_n C dX12_tryRun_100 rfl rfl ?_
              refine gM_143 C dX12_tryRun_101 ?_
              refine j_iload_n C dX12_tryRun_104 rfl rfl ?_
              obtain ⟨p4, hP⟩ := hP
              refine j_iald (k := 43) (v := (h 43 (x1.toNatClampNeg))) C dX12_tryRun_105 (by decide) rfl p4 rfl ?_
              obtain ⟨p6, hP⟩ := hP
              refine j_callV C (MX12_canGo (h 43 (x1.toNatClampNeg)) h p6) dX12_tryRun_106 (CKX12_canGo (by decide)) ⟨rfl, rfl⟩ lk_RX12_215 in_X12_canGo se_X12_canGo (by decide) rfl rfl rfl (Nat.le_of_ble_eq_true rfl) ?_
              intro r S' h' hq
              obtain ⟨rfl, hh, rfl, hb8⟩ := hq
              rw [hh]
              refine j_if_ne (tgt := 114) C dX12_tryRun_109 (by decide) (fun c6 => ?_) (fun c6 => ?_)
              · have hP := hP.2 c6
                rw [if_neg c6] at hR
                refine j_aload_n C dX12_tryRun_114 rfl rfl ?_
                refine gM_143 C dX12_tryRun_115 ?_
                refine j_iload_n C dX12_tryRun_118 rfl rfl ?_
                obtain ⟨p3, hP⟩ := hP
                refine j_iald (k := 43) (v := (h 43 (x1.toNatClampNeg))) C dX12_tryRun_119 (by decide) rfl p3 rfl ?_
                refine j_istore_n C dX12_tryRun_120 rfl (by decide) rfl ?_
                refine j_iinc (v := (x1 + 1)) C dX12_tryRun_121 rfl rfl (by decide) rfl ?_
                refine j_goto (tgt := 12) C dX12_tryRun_124 (by decide) ?_
                exact j_vl (hL12 (x1 + 1) (h 43 (x1.toNatClampNeg)) h hP hR) ⟨rfl, rfl, rfl, trivial⟩
              · have hP := hP.1 c6
                rw [if_pos c6] at hR
                refine j_iconst (v := 0) C dX12_tryRun_112 (by decide) ?_
                exact hR bo_0 _ _ dX12_tryRun_113
def FX12_tryRun_127  (x1 : Int32) (h : ph_H) : Int32 × ph_H := if x1 = (h 0 74) then ((1, h)) else ((0, h))
def PX12_tryRun_127  (x1 : Int32) (h : ph_H) : Prop := (x1 = (h 0 74) → (True)) ∧ (¬ x1 = (h 0 74) → (True))
set_option maxRecDepth 100000 in
set_option maxHeartbeats 4000000 in
theorem tX12_tryRun_127 {X : fj_X} {Y : fj_Y} {l0 : Launch} {ad : Nat → Nat} (C : FC X Y l0 cX12_tryRun 3 RX12 ({ frames := 4, cells := 0, slots := 0, locals := 100 } : Room) 0 0 (some .boolean)) (x1 : Int32) (h : ph_H) (hP : PX12_tryRun_127  x1 h) (hR : RETz X Y ad 50 SM cX12_tryRun (FX12_tryRun_127  x1 h)) : FJ X Y ad 50 SM h 127 [(0, .ref (ad 0)), (1, .int x1)] [] := by
  unfold PX12_tryRun_127 at hP
  unfold FX12_tryRun_127 at hR
  refine j_iload_n C dX12_tryRun_127 rfl rfl ?_
  refine j_aload_n C dX12_tryRun_128 rfl rfl ?_
  refine gM_340 (v := (h 0 74)) C dX12_tryRun_129 rfl ?_
  refine j_icmp_ne (tgt := 139) C dX12_tryRun_132 (by decide) (fun c0 => ?_) (fun c0 => ?_)
  · have hP := hP.2 c0
    rw [if_neg c0] at hR
    refine j_iconst (v := 0) C dX12_tryRun_139 (by decide) ?_
    exact hR bo_0 _ _ dX12_tryRun_140
  · have hP := hP.1 c0
    rw [if_pos c0] at hR
    refine j_iconst (v := 1) C dX12_tryRun_135 (by decide) ?_
    refine j_goto (tgt := 140) C dX12_tryRun_136 (by decide) ?_
    exact hR bo_1 _ _ dX12_tryRun_140
def FX12_tryRun_12  : Nat → Int32 → Int32 → ph_H → Int32 × ph_H
  | 0, _, _, h => (0, h)
  | q + 1, x1, x2, h => if x2 < 0 then (FX12_tryRun_127  x1 h) else (if (h 0 25) = 0 then (if 300 ≤ (h 0 24) then (FX12_tryRun_127  x1 h) else (FX12_tryRun_38 (FX12_tryRun_12  q) x1 (FX12_step x2 h))) else (FX12_tryRun_127  x1 h))
def PX12_tryRun_12  : Nat → Int32 → Int32 → ph_H → Prop
  | 0, _, _, _ => False
  | q + 1, x1, x2, h => (x2 < 0 → (PX12_tryRun_127  x1 h)) ∧ (¬ x2 < 0 → (((h 0 25) = 0 → ((300 ≤ (h 0 24) → (PX12_tryRun_127  x1 h)) ∧ (¬ 300 ≤ (h 0 24) → ((PX12_step x2 h) ∧ (PX12_tryRun_38 (PX12_tryRun_12  q) x1 (FX12_step x2 h)))))) ∧ (¬ (h 0 25) = 0 → (PX12_tryRun_127  x1 h))))
set_option maxRecDepth 100000 in
set_option maxHeartbeats 4000000 in
theorem tX12_tryRun_12 {X : fj_X} {Y : fj_Y} {l0 : Launch} {ad : Nat → Nat} (C : FC X Y l0 cX12_tryRun 3 RX12 ({ frames := 4, cells := 0, slots := 0, locals := 100 } : Room) 0 0 (some .boolean)) : ∀ (q : Nat) (x1 : Int32) (x2 : Int32) (h : ph_H), PX12_tryRun_12  q x1 x2 h → RETz X Y ad 50 SM cX12_tryRun (FX12_tryRun_12  q x1 x2 h) → FJ X Y ad 50 SM h 12 [(0, .ref (ad 0)), (1, .int x1), (2, .int x2)] [] := by
  intro q
  induction q with
  | zero =>
    intro x1 x2 h hP hR
    exact absurd hP id
  | succ q ih =>
    intro x1 x2 h hP hR
    unfold PX12_tryRun_12 at hP
    unfold FX12_tryRun_12 at hR
    refine j_iload_n C dX12_tryRun_12 rfl rfl ?_
    refine j_if_lt (tgt := 127) C dX12_tryRun_13 (by decide) (fun c0 => ?_) (fun c0 => ?_)
    · have hP := hP.1 c0
      rw [if_pos c0] at hR
      exact j_vl (tX12_tryRun_127 C  x1 h hP hR) ⟨rfl, rfl, trivial⟩
    · have hP := hP.2 c0
      rw [if_neg c0] at hR
      refine j_aload_n C dX12_tryRun_16 rfl rfl ?_
      refine gM_194 (v := (h 0 25)) C dX12_tryRun_17 rfl ?_
      refine j_if_ne (tgt := 127) C dX12_tryRun_20 (by decide) (fun c1 => ?_) (fun c1 => ?_)
      · have hP := hP.2 c1
        rw [if_neg c1] at hR
        exact j_vl (tX12_tryRun_127 C  x1 h hP hR) ⟨rfl, rfl, trivial⟩
      · have hP := hP.1 c1
        rw [if_pos c1] at hR
        refine j_aload_n C dX12_tryRun_23 rfl rfl ?_
        refine gM_191 (v := (h 0 24)) C dX12_tryRun_24 rfl ?_
        refine j_sipush (v := 300) C dX12_tryRun_27 (by decide) ?_
        refine j_icmp_ge (tgt := 127) C dX12_tryRun_30 (by decide) (fun c2 => ?_) (fun c2 => ?_)
        · have hP := hP.1 c2
          rw [if_pos c2] at hR
          exact j_vl (tX12_tryRun_127 C  x1 h hP hR) ⟨rfl, rfl, trivial⟩
        · have hP := hP.2 c2
          rw [if_neg c2] at hR
          refine j_aload_n C dX12_tryRun_33 rfl rfl ?_
          refine j_iload_n C dX12_tryRun_34 rfl rfl ?_
          obtain ⟨p2, hP⟩ := hP
          refine j_callVv C (MX12_step x2 h p2) dX12_tryRun_35 (CKX12_step (by decide)) ⟨rfl, rfl⟩ lk_RX12_275 in_X12_step se_X12_step (by decide) rfl rfl rfl (Nat.le_of_ble_eq_true rfl) ?_
          intro S' h' hq
          obtain ⟨rfl, rfl⟩ := hq
          exact j_vl (tX12_tryRun_38 C (FX12_tryRun_12  q) (PX12_tryRun_12  q) (ih) x1 (FX12_step x2 h) hP hR) ⟨rfl, rfl, trivial⟩
def FX12_tryRun_4  (h : ph_H) : Int32 × ph_H := FX12_tryRun_12 2000 0 (FX12_free 0 h) h
def PX12_tryRun_4  (h : ph_H) : Prop := (PX12_free 0 h) ∧ (PX12_tryRun_12 2000 0 (FX12_free 0 h) h)
set_option maxRecDepth 100000 in
set_option maxHeartbeats 4000000 in
theorem tX12_tryRun_4 {X : fj_X} {Y : fj_Y} {l0 : Launch} {ad : Nat → Nat} (C : FC X Y l0 cX12_tryRun 3 RX12 ({ frames := 4, cells := 0, slots := 0, locals := 100 } : Room) 0 0 (some .boolean)) (h : ph_H) (hP : PX12_tryRun_4  h) (hR : RETz X Y ad 50 SM cX12_tryRun (FX12_tryRun_4  h)) : FJ X Y ad 50 SM h 4 [(0, .ref (ad 0))] [] := by
  unfold PX12_tryRun_4 at hP
  unfold FX12_tryRun_4 at hR
  refine j_iconst (v := 0) C dX12_tryRun_4 (by decide) ?_
  refine j_istore_n C dX12_tryRun_5 rfl (by decide) rfl ?_
  refine j_aload_n C dX12_tryRun_6 rfl rfl ?_
  refine j_iconst (v := 0) C dX12_tryRun_7 (by decide) ?_
  obtain ⟨p4, hP⟩ := hP
  refine j_callV C (MX12_free 0 h p4) dX12_tryRun_8 (CKX12_free (by decide)) ⟨rfl, rfl⟩ lk_RX12_282 in_X12_free se_X12_free (by decide) rfl rfl rfl (Nat.le_of_ble_eq_true rfl) ?_
  intro r S' h' hq
  obtain ⟨rfl, hh, rfl⟩ := hq
  rw [hh]
  refine j_istore_n C dX12_tryRun_11 rfl (by decide) rfl ?_
  exact j_vl (tX12_tryRun_12 C 2000 0 (FX12_free 0 h) h hP hR) ⟨rfl, rfl, rfl, trivial⟩
def FX12_tryRun (h : ph_H) : Int32 × ph_H := FX12_tryRun_4  (FX12_begin h)
def PX12_tryRun (h : ph_H) : Prop := (PX12_begin h) ∧ (PX12_tryRun_4  (FX12_begin h))
set_option maxRecDepth 100000 in
set_option maxHeartbeats 4000000 in
theorem tX12_tryRun {X : fj_X} {Y : fj_Y} {l0 : Launch} {ad : Nat → Nat} (C : FC X Y l0 cX12_tryRun 3 RX12 ({ frames := 4, cells := 0, slots := 0, locals := 100 } : Room) 0 0 (some .boolean)) (h : ph_H) (hP : PX12_tryRun h) (hR : RETz X Y ad 50 SM cX12_tryRun (FX12_tryRun h)) : FJ X Y ad 50 SM h 0 [(0, .ref (ad 0))] [] := by
  unfold PX12_tryRun at hP
  unfold FX12_tryRun at hR
  refine j_aload_n C dX12_tryRun_0 rfl rfl ?_
  obtain ⟨p1, hP⟩ := hP
  refine j_callVv C (MX12_begin h p1) dX12_tryRun_1 (CKX12_begin (by decide)) ⟨rfl, rfl⟩ lk_RX12_285 in_X12_begin se_X12_begin (by decide) rfl rfl rfl (Nat.le_of_ble_eq_true rfl) ?_
  intro S' h' hq
  obtain ⟨rfl, rfl⟩ := hq
  exact j_vl (tX12_tryRun_4 C  (FX12_begin h) hP hR) ⟨rfl, trivial⟩
theorem MX12_tryRun {l0 : Launch} {Y : fj_Y} {ad : Nat → Nat} (h : ph_H) (hP : PX12_tryRun h) : MI l0 yX12_tryRun cX12_tryRun 3 (some .boolean) ({ frames := 4, cells := 0, slots := 0, locals := 100 } : Room) Y ad 50 SM h [.ref (ad 0)] (fun r S' h' => S' = SM ∧ h' = (FX12_tryRun h).2 ∧ r = (FX12_tryRun h).1 ∧ bo r) := met_i (by decide) (Nat.le_of_ble_eq_true rfl) (fun _ _ _ q => bo_n q.2.2.2) (fun X C K => j_vl (tX12_tryRun C h hP (fun b pc lv hd => K _ _ _ ⟨rfl, rfl, rfl, b⟩ pc lv hd)) ⟨rfl, trivial⟩)
