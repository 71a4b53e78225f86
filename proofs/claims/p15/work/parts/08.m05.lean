-- X12_ended
def FX12_ended (h : ph_H) : Int32 × ph_H := ((h 0 66), (hs h 0 0 0))
def PX12_ended (h : ph_H) : Prop := True
set_option maxRecDepth 100000 in
set_option maxHeartbeats 4000000 in
theorem tX12_ended {X : fj_X} {Y : fj_Y} {l0 : Launch} {ad : Nat → Nat} (C : FC X Y l0 cX12_ended 1 RX12 ({ frames := 0, cells := 0, slots := 0, locals := 0 } : Room) 0 0 (some .int)) (h : ph_H) (hP : PX12_ended h) (hR : RETi X Y ad 50 SM cX12_ended (FX12_ended h)) : FJ X Y ad 50 SM h 0 [(0, .ref (ad 0))] [] := by
  unfold PX12_ended at hP
  unfold FX12_ended at hR
  refine j_aload_n C dX12_ended_0 rfl rfl ?_
  refine j_iconst (v := 0) C dX12_ended_1 (by decide) ?_
  refine pM_164 C dX12_ended_2 ?_
  refine j_aload_n C dX12_ended_5 rfl rfl ?_
  refine gM_130 (v := (h 0 66)) C dX12_ended_6 (hz_i (by decide)) ?_
  exact hR _ _ dX12_ended_9
theorem MX12_ended {l0 : Launch} {Y : fj_Y} {ad : Nat → Nat} (h : ph_H) (hP : PX12_ended h) : MI l0 yX12_ended cX12_ended 1 (some .int) ({ frames := 0, cells := 0, slots := 0, locals := 0 } : Room) Y ad 50 SM h [.ref (ad 0)] (fun r S' h' => S' = SM ∧ h' = (FX12_ended h).2 ∧ r = (FX12_ended h).1) := met_i (by decide) (Nat.le_of_ble_eq_true rfl) (fun _ _ _ _ => rfl) (fun X C K => j_vl (tX12_ended C h hP (fun pc lv hd => K _ _ _ ⟨rfl, rfl, rfl⟩ pc lv hd)) ⟨rfl, trivial⟩)

-- X12_to
def FX12_to (a0 : Int32) (h : ph_H) : Int32 × ph_H := if (h 0 36) = 0 then (((-2), (hs h 0 0 0))) else (if (FX12_isIn a0.toInt64 0 ((h 0 38).toInt64)) = 0 then (((-1), (hs h 0 0 0))) else ((a0, (hs (hs h 0 0 0) 0 42 a0))))
def PX12_to (a0 : Int32) (h : ph_H) : Prop := ((h 0 36) = 0 → (True)) ∧ (¬ (h 0 36) = 0 → ((PX12_isIn a0.toInt64 0 ((h 0 38).toInt64)) ∧ (((FX12_isIn a0.toInt64 0 ((h 0 38).toInt64)) = 0 → (True)) ∧ (¬ (FX12_isIn a0.toInt64 0 ((h 0 38).toInt64)) = 0 → (True)))))
set_option maxRecDepth 100000 in
set_option maxHeartbeats 4000000 in
theorem tX12_to {X : fj_X} {Y : fj_Y} {l0 : Launch} {ad : Nat → Nat} (C : FC X Y l0 cX12_to 2 RX12 ({ frames := 1, cells := 0, slots := 0, locals := 25 } : Room) 0 0 (some .int)) (a0 : Int32) (h : ph_H) (hP : PX12_to a0 h) (hR : RETi X Y ad 50 SM cX12_to (FX12_to a0 h)) : FJ X Y ad 50 SM h 0 [(0, .ref (ad 0)), (1, .int a0)] [] := by
  unfold PX12_to at hP
  unfold FX12_to at hR
  refine j_aload_n C dX12_to_0 rfl rfl ?_
  refine j_iconst (v := 0) C dX12_to_1 (by decide) ?_
  refine pM_164 C dX12_to_2 ?_
  refine j_aload_n C dX12_to_5 rfl rfl ?_
  refine gM_294 (v := (h 0 36)) C dX12_to_6 (hz_i (by decide)) ?_
  refine j_if_ne (tgt := 15) C dX12_to_9 (by decide) (fun c0 => ?_) (fun c0 => ?_)
  · have hP := hP.2 c0
    rw [if_neg c0] at hR
    refine j_iload_n C dX12_to_15 rfl rfl ?_
    refine j_i2l C dX12_to_16 ?_
    refine j_lconst (v := 0) C dX12_to_17 (by decide) ?_
    refine j_aload_n C dX12_to_18 rfl rfl ?_
    refine gM_304 (v := (h 0 38)) C dX12_to_19 (hz_i (by decide)) ?_
    refine j_i2l C dX12_to_22 ?_
    obtain ⟨p6, hP⟩ := hP
    refine j_callS C (MX12_isIn a0.toInt64 0 ((h 0 38).toInt64) (hs h 0 0 0) p6) dX12_to_23 (CKX12_isIn (by decide)) ⟨rfl, rfl⟩ lk_RX12_169 st_X12_isIn rfl (Nat.le_of_ble_eq_true rfl) ?_
    intro r S' h' hq
    obtain ⟨rfl, hh, rfl, hb8⟩ := hq
    rw [hh]
    refine j_if_ne (tgt := 31) C dX12_to_26 (by decide) (fun c1 => ?_) (fun c1 => ?_)
    · have hP := hP.2 c1
      rw [if_neg c1] at hR
      refine j_aload_n C dX12_to_31 rfl rfl ?_
      refine j_iload_n C dX12_to_32 rfl rfl ?_
      refine pM_316 C dX12_to_33 ?_
      refine j_iload_n C dX12_to_36 rfl rfl ?_
      exact hR _ _ dX12_to_37
    · have hP := hP.1 c1
      rw [if_pos c1] at hR
      refine j_iconst (v := (-1)) C dX12_to_29 (by decide) ?_
      exact hR _ _ dX12_to_30
  · have hP := hP.1 c0
    rw [if_pos c0] at hR
    refine j_bipush (v := (-2)) C dX12_to_12 (by decide) ?_
    exact hR _ _ dX12_to_14
theorem MX12_to {l0 : Launch} {Y : fj_Y} {ad : Nat → Nat} (a0 : Int32) (h : ph_H) (hP : PX12_to a0 h) : MI l0 yX12_to cX12_to 2 (some .int) ({ frames := 1, cells := 0, slots := 0, locals := 25 } : Room) Y ad 50 SM h [.ref (ad 0), .int a0] (fun r S' h' => S' = SM ∧ h' = (FX12_to a0 h).2 ∧ r = (FX12_to a0 h).1) := met_i (by decide) (Nat.le_of_ble_eq_true rfl) (fun _ _ _ _ => rfl) (fun X C K => j_vl (tX12_to C a0 h hP (fun pc lv hd => K _ _ _ ⟨rfl, rfl, rfl⟩ pc lv hd)) ⟨rfl, rfl, trivial⟩)

-- X12_back
def FX12_back (a0 : Int32) (h : ph_H) : Int32 × ph_H := if (h 0 36) = 0 then (((-2), (hs h 0 0 0))) else (if a0 < 0 then (((-1), (hs h 0 0 0))) else (if a0 ≤ (h 0 42) then ((((h 0 42) - a0), (hs (hs h 0 0 0) 0 42 ((h 0 42) - a0)))) else (((-1), (hs h 0 0 0)))))
def PX12_back (a0 : Int32) (h : ph_H) : Prop := ((h 0 36) = 0 → (True)) ∧ (¬ (h 0 36) = 0 → ((a0 < 0 → (True)) ∧ (¬ a0 < 0 → ((a0 ≤ (h 0 42) → (True)) ∧ (¬ a0 ≤ (h 0 42) → (True))))))
set_option maxRecDepth 100000 in
set_option maxHeartbeats 4000000 in
theorem tX12_back {X : fj_X} {Y : fj_Y} {l0 : Launch} {ad : Nat → Nat} (C : FC X Y l0 cX12_back 2 RX12 ({ frames := 0, cells := 0, slots := 0, locals := 0 } : Room) 0 0 (some .int)) (a0 : Int32) (h : ph_H) (hP : PX12_back a0 h) (hR : RETi X Y ad 50 SM cX12_back (FX12_back a0 h)) : FJ X Y ad 50 SM h 0 [(0, .ref (ad 0)), (1, .int a0)] [] := by
  unfold PX12_back at hP
  unfold FX12_back at hR
  refine j_aload_n C dX12_back_0 rfl rfl ?_
  refine j_iconst (v := 0) C dX12_back_1 (by decide) ?_
  refine pM_164 C dX12_back_2 ?_
  refine j_aload_n C dX12_back_5 rfl rfl ?_
  refine gM_294 (v := (h 0 36)) C dX12_back_6 (hz_i (by decide)) ?_
  refine j_if_ne (tgt := 15) C dX12_back_9 (by decide) (fun c0 => ?_) (fun c0 => ?_)
  · have hP := hP.2 c0
    rw [if_neg c0] at hR
    refine j_iload_n C dX12_back_15 rfl rfl ?_
    refine j_if_lt (tgt := 27) C dX12_back_16 (by decide) (fun c1 => ?_) (fun c1 => ?_)
    · have hP := hP.1 c1
      rw [if_pos c1] at hR
      refine j_iconst (v := (-1)) C dX12_back_27 (by decide) ?_
      exact hR _ _ dX12_back_28
    · have hP := hP.2 c1
      rw [if_neg c1] at hR
      refine j_iload_n C dX12_back_19 rfl rfl ?_
      refine j_aload_n C dX12_back_20 rfl rfl ?_
      refine gM_316 (v := (h 0 42)) C dX12_back_21 (hz_i (by decide)) ?_
      refine j_icmp_le (tgt := 29) C dX12_back_24 (by decide) (fun c2 => ?_) (fun c2 => ?_)
      · have hP := hP.1 c2
        rw [if_pos c2] at hR
        refine j_aload_n C dX12_back_29 rfl rfl ?_
        refine j_dup C dX12_back_30 rfl ?_
        refine gM_316 (v := (h 0 42)) C dX12_back_31 (hz_i (by decide)) ?_
        refine j_iload_n C dX12_back_34 rfl rfl ?_
        refine j_isub C dX12_back_35 ?_
        refine pM_316 C dX12_back_36 ?_
        refine j_aload_n C dX12_back_39 rfl rfl ?_
        refine gM_316 (v := ((h 0 42) - a0)) C dX12_back_40 (hz_e) ?_
        exact hR _ _ dX12_back_43
      · have hP := hP.2 c2
        rw [if_neg c2] at hR
        refine j_iconst (v := (-1)) C dX12_back_27 (by decide) ?_
        exact hR _ _ dX12_back_28
  · have hP := hP.1 c0
    rw [if_pos c0] at hR
    refine j_bipush (v := (-2)) C dX12_back_12 (by decide) ?_
    exact hR _ _ dX12_back_14
theorem MX12_back {l0 : Launch} {Y : fj_Y} {ad : Nat → Nat} (a0 : Int32) (h : ph_H) (hP : PX12_back a0 h) : MI l0 yX12_back cX12_back 2 (some .int) ({ frames := 0, cells := 0, slots := 0, locals := 0 } : Room) Y ad 50 SM h [.ref (ad 0), .int a0] (fun r S' h' => S' = SM ∧ h' = (FX12_back a0 h).2 ∧ r = (FX12_back a0 h).1) := met_i (by decide) (Nat.le_of_ble_eq_true rfl) (fun _ _ _ _ => rfl) (fun X C K => j_vl (tX12_back C a0 h hP (fun pc lv hd => K _ _ _ ⟨rfl, rfl, rfl⟩ pc lv hd)) ⟨rfl, rfl, trivial⟩)

-- X12_value
def FX12_value_119  (x3 : Int32) (s0 : Int32) (s1 : Int32) (h : ph_H) : Int32 × ph_H := if x3 = 0 then (((h 20 ((s1 + s0).toNatClampNeg)), h)) else (((h 21 ((s1 + s0).toNatClampNeg)), h))
def PX12_value_119  (x3 : Int32) (s0 : Int32) (s1 : Int32) (h : ph_H) : Prop := (x3 = 0 → (vp_in (s1 + s0) 8428 ∧ (True))) ∧ (¬ x3 = 0 → (vp_in (s1 + s0) 8428 ∧ (True)))
set_option maxRecDepth 100000 in
set_option maxHeartbeats 4000000 in
theorem tX12_value_119 {X : fj_X} {Y : fj_Y} {l0 : Launch} {ad : Nat → Nat} (C : FC X Y l0 cX12_value 6 RX12 ({ frames := 1, cells := 0, slots := 0, locals := 25 } : Room) 0 0 (some .int)) (x3 : Int32) (s0 : Int32) (s1 : Int32) (h : ph_H) (hP : PX12_value_119  x3 s0 s1 h) (hR : RETi X Y ad 50 SM cX12_value (FX12_value_119  x3 s0 s1 h)) : FJ X Y ad 50 SM h 119 [(0, .ref (ad 0)), (3, .int x3)] [.int s0, .int s1] := by
  unfold PX12_value_119 at hP
  unfold FX12_value_119 at hR
  refine j_iadd C dX12_value_119 ?_
  refine j_istore C dX12_value_120 (by decide) rfl ?_
  refine j_iload_n C dX12_value_122 rfl rfl ?_
  refine j_if_ne (tgt := 136) C dX12_value_123 (by decide) (fun c0 => ?_) (fun c0 => ?_)
  · have hP := hP.2 c0
    rw [if_neg c0] at hR
    refine j_aload_n C dX12_value_136 rfl rfl ?_
    refine gM_71 C dX12_value_137 ?_
    refine j_iload C dX12_value_140 rfl ?_
    obtain ⟨p3, hP⟩ := hP
    refine j_iald (k := 21) (v := (h 21 ((s1 + s0).toNatClampNeg))) C dX12_value_142 (by decide) rfl p3 rfl ?_
    exact hR _ _ dX12_value_143
  · have hP := hP.1 c0
    rw [if_pos c0] at hR
    refine j_aload_n C dX12_value_126 rfl rfl ?_
    refine gM_68 C dX12_value_127 ?_
    refine j_iload C dX12_value_130 rfl ?_
    obtain ⟨p3, hP⟩ := hP
    refine j_iald (k := 20) (v := (h 20 ((s1 + s0).toNatClampNeg))) C dX12_value_132 (by decide) rfl p3 rfl ?_
    refine j_goto (tgt := 143) C dX12_value_133 (by decide) ?_
    exact hR _ _ dX12_value_143
def FX12_value_83  (x1 : Int32) (x2 : Int32) (x3 : Int32) (s0 : Int32) (h : ph_H) : Int32 × ph_H := if s0 ≤ 0 then (if x1 = (-1) then (FX12_value_119  x3 x2 (28 * (h 0 42)) (hs h 0 0 s0)) else (FX12_value_119  x3 ((12 + (4 * x1)) + x2) (28 * (h 0 42)) (hs h 0 0 s0))) else ((0, (hs h 0 0 s0)))
def PX12_value_83  (x1 : Int32) (x2 : Int32) (x3 : Int32) (s0 : Int32) (h : ph_H) : Prop := (s0 ≤ 0 → ((x1 = (-1) → (PX12_value_119  x3 x2 (28 * (h 0 42)) (hs h 0 0 s0))) ∧ (¬ x1 = (-1) → (PX12_value_119  x3 ((12 + (4 * x1)) + x2) (28 * (h 0 42)) (hs h 0 0 s0))))) ∧ (¬ s0 ≤ 0 → (True))
set_option maxRecDepth 100000 in
set_option maxHeartbeats 4000000 in
theorem tX12_value_83 {X : fj_X} {Y : fj_Y} {l0 : Launch} {ad : Nat → Nat} (C : FC X Y l0 cX12_value 6 RX12 ({ frames := 1, cells := 0, slots := 0, locals := 25 } : Room) 0 0 (some .int)) (x1 : Int32) (x2 : Int32) (x3 : Int32) (s0 : Int32) (h : ph_H) (hP : PX12_value_83  x1 x2 x3 s0 h) (hR : RETi X Y ad 50 SM cX12_value (FX12_value_83  x1 x2 x3 s0 h)) : FJ X Y ad 50 SM h 83 [(0, .ref (ad 0)), (1, .int x1), (2, .int x2), (3, .int x3)] [.int s0, .ref (ad 0)] := by
  unfold PX12_value_83 at hP
  unfold FX12_value_83 at hR
  refine pM_164 C dX12_value_83 ?_
  refine j_aload_n C dX12_value_86 rfl rfl ?_
  refine gM_164 (v := s0) C dX12_value_87 (hz_e) ?_
  refine j_if_le (tgt := 95) C dX12_value_90 (by decide) (fun c0 => ?_) (fun c0 => ?_)
  · have hP := hP.1 c0
    rw [if_pos c0] at hR
    refine j_bipush (v := 28) C dX12_value_95 (by decide) ?_
    refine j_aload_n C dX12_value_97 rfl rfl ?_
    refine gM_316 (v := (h 0 42)) C dX12_value_98 (hz_i (by decide)) ?_
    refine j_imul C dX12_value_101 ?_
    refine j_iload_n C dX12_value_102 rfl rfl ?_
    refine j_iconst (v := (-1)) C dX12_value_103 (by decide) ?_
    refine j_icmp_ne (tgt := 111) C dX12_value_104 (by decide) (fun c1 => ?_) (fun c1 => ?_)
    · have hP := hP.2 c1
      rw [if_neg c1] at hR
      refine j_bipush (v := 12) C dX12_value_111 (by decide) ?_
      refine j_iconst (v := 4) C dX12_value_113 (by decide) ?_
      refine j_iload_n C dX12_value_114 rfl rfl ?_
      refine j_imul C dX12_value_115 ?_
      refine j_iadd C dX12_value_116 ?_
      refine j_iload_n C dX12_value_117 rfl rfl ?_
      refine j_iadd C dX12_value_118 ?_
      exact j_vl (tX12_value_119 C  x3 ((12 + (4 * x1)) + x2) (28 * (h 0 42)) (hs h 0 0 s0) hP hR) ⟨rfl, rfl, trivial⟩
    · have hP := hP.1 c1
      rw [if_pos c1] at hR
      refine j_iload_n C dX12_value_107 rfl rfl ?_
      refine j_goto (tgt := 119) C dX12_value_108 (by decide) ?_
      exact j_vl (tX12_value_119 C  x3 x2 (28 * (h 0 42)) (hs h 0 0 s0) hP hR) ⟨rfl, rfl, trivial⟩
  · have hP := hP.2 c0
    rw [if_neg c0] at hR
    refine j_iconst (v := 0) C dX12_value_93 (by decide) ?_
    exact hR _ _ dX12_value_94
def FX12_value_59  (x1 : Int32) (x2 : Int32) (x3 : Int32) (s0 : Int32) (h : ph_H) : Int32 × ph_H := if (h 0 36) = 0 then (FX12_value_83  x1 x2 x3 2 h) else (if s0 = 0 then (FX12_value_83  x1 x2 x3 1 h) else (FX12_value_83  x1 x2 x3 0 h))
def PX12_value_59  (x1 : Int32) (x2 : Int32) (x3 : Int32) (s0 : Int32) (h : ph_H) : Prop := ((h 0 36) = 0 → (PX12_value_83  x1 x2 x3 2 h)) ∧ (¬ (h 0 36) = 0 → ((s0 = 0 → (PX12_value_83  x1 x2 x3 1 h)) ∧ (¬ s0 = 0 → (PX12_value_83  x1 x2 x3 0 h))))
set_option maxRecDepth 100000 in
set_option maxHeartbeats 4000000 in
theorem tX12_value_59 {X : fj_X} {Y : fj_Y} {l0 : Launch} {ad : Nat → Nat} (C : FC X Y l0 cX12_value 6 RX12 ({ frames := 1, cells := 0, slots := 0, locals := 25 } : Room) 0 0 (some .int)) (x1 : Int32) (x2 : Int32) (x3 : Int32) (s0 : Int32) (h : ph_H) (hP : PX12_value_59  x1 x2 x3 s0 h) (hR : RETi X Y ad 50 SM cX12_value (FX12_value_59  x1 x2 x3 s0 h)) : FJ X Y ad 50 SM h 59 [(0, .ref (ad 0)), (1, .int x1), (2, .int x2), (3, .int x3)] [.int s0] := by
  unfold PX12_value_59 at hP
  unfold FX12_value_59 at hR
  refine j_istore C dX12_value_59 (by decide) rfl ?_
  refine j_aload_n C dX12_value_61 rfl rfl ?_
  refine j_aload_n C dX12_value_62 rfl rfl ?_
  refine gM_294 (v := (h 0 36)) C dX12_value_63 rfl ?_
  refine j_if_ne (tgt := 73) C dX12_value_66 (by decide) (fun c0 => ?_) (fun c0 => ?_)
  · have hP := hP.2 c0
    rw [if_neg c0] at hR
    refine j_iload C dX12_value_73 rfl ?_
    refine j_if_eq (tgt := 82) C dX12_value_75 (by decide) (fun c1 => ?_) (fun c1 => ?_)
    · have hP := hP.1 c1
      rw [if_pos c1] at hR
      refine j_iconst (v := 1) C dX12_value_82 (by decide) ?_
      exact j_vl (tX12_value_83 C  x1 x2 x3 1 h hP hR) ⟨rfl, rfl, rfl, rfl, trivial⟩
    · have hP := hP.2 c1
      rw [if_neg c1] at hR
      refine j_iconst (v := 0) C dX12_value_78 (by decide) ?_
      refine j_goto (tgt := 83) C dX12_value_79 (by decide) ?_
      exact j_vl (tX12_value_83 C  x1 x2 x3 0 h hP hR) ⟨rfl, rfl, rfl, rfl, trivial⟩
  · have hP := hP.1 c0
    rw [if_pos c0] at hR
    refine j_iconst (v := 2) C dX12_value_69 (by decide) ?_
    refine j_goto (tgt := 83) C dX12_value_70 (by decide) ?_
    exact j_vl (tX12_value_83 C  x1 x2 x3 2 h hP hR) ⟨rfl, rfl, rfl, rfl, trivial⟩
def FX12_value_54  (x1 : Int32) (x2 : Int32) (x3 : Int32) (h : ph_H) : Int32 × ph_H := FX12_value_59  x1 x2 x3 1 h
def PX12_value_54  (x1 : Int32) (x2 : Int32) (x3 : Int32) (h : ph_H) : Prop := PX12_value_59  x1 x2 x3 1 h
set_option maxRecDepth 100000 in
set_option maxHeartbeats 4000000 in
theorem tX12_value_54 {X : fj_X} {Y : fj_Y} {l0 : Launch} {ad : Nat → Nat} (C : FC X Y l0 cX12_value 6 RX12 ({ frames := 1, cells := 0, slots := 0, locals := 25 } : Room) 0 0 (some .int)) (x1 : Int32) (x2 : Int32) (x3 : Int32) (h : ph_H) (hP : PX12_value_54  x1 x2 x3 h) (hR : RETi X Y ad 50 SM cX12_value (FX12_value_54  x1 x2 x3 h)) : FJ X Y ad 50 SM h 54 [(0, .ref (ad 0)), (1, .int x1), (2, .int x2), (3, .int x3)] [] := by
  unfold PX12_value_54 at hP
  unfold FX12_value_54 at hR
  refine j_iconst (v := 1) C dX12_value_54 (by decide) ?_
  refine j_goto (tgt := 59) C dX12_value_55 (by decide) ?_
  exact j_vl (tX12_value_59 C  x1 x2 x3 1 h hP hR) ⟨rfl, rfl, rfl, rfl, trivial⟩
def FX12_value_58  (x1 : Int32) (x2 : Int32) (x3 : Int32) (h : ph_H) : Int32 × ph_H := FX12_value_59  x1 x2 x3 0 h
def PX12_value_58  (x1 : Int32) (x2 : Int32) (x3 : Int32) (h : ph_H) : Prop := PX12_value_59  x1 x2 x3 0 h
set_option maxRecDepth 100000 in
set_option maxHeartbeats 4000000 in
theorem tX12_value_58 {X : fj_X} {Y : fj_Y} {l0 : Launch} {ad : Nat → Nat} (C : FC X Y l0 cX12_value 6 RX12 ({ frames := 1, cells := 0, slots := 0, locals := 25 } : Room) 0 0 (some .int)) (x1 : Int32) (x2 : Int32) (x3 : Int32) (h : ph_H) (hP : PX12_value_58  x1 x2 x3 h) (hR : RETi X Y ad 50 SM cX12_value (FX12_value_58  x1 x2 x3 h)) : FJ X Y ad 50 SM h 58 [(0, .ref (ad 0)), (1, .int x1), (2, .int x2), (3, .int x3)] [] := by
  unfold PX12_value_58 at hP
  unfold FX12_value_58 at hR
  refine j_iconst (v := 0) C dX12_value_58 (by decide) ?_
  exact j_vl (tX12_value_59 C  x1 x2 x3 0 h hP hR) ⟨rfl, rfl, rfl, rfl, trivial⟩
def FX12_value (a0 : Int32) (a1 : Int32) (a2 : Int32) (h : ph_H) : Int32 × ph_H := if (FX12_isIn a2.toInt64 0 1) = 0 then (FX12_value_58  a0 a1 a2 h) else (if a0 = (-1) then (if (FX12_isIn a1.toInt64 0 11) = 0 then (FX12_value_58  a0 a1 a2 h) else (FX12_value_54  a0 a1 a2 h)) else (if (FX12_isIn a0.toInt64 0 3) = 0 then (FX12_value_58  a0 a1 a2 h) else (if (FX12_isIn a1.toInt64 0 3) = 0 then (FX12_value_58  a0 a1 a2 h) else (FX12_value_54  a0 a1 a2 h))))
def PX12_value (a0 : Int32) (a1 : Int32) (a2 : Int32) (h : ph_H) : Prop := (PX12_isIn a2.toInt64 0 1) ∧ (((FX12_isIn a2.toInt64 0 1) = 0 → (PX12_value_58  a0 a1 a2 h)) ∧ (¬ (FX12_isIn a2.toInt64 0 1) = 0 → ((a0 = (-1) → ((PX12_isIn a1.toInt64 0 11) ∧ (((FX12_isIn a1.toInt64 0 11) = 0 → (PX12_value_58  a0 a1 a2 h)) ∧ (¬ (FX12_isIn a1.toInt64 0 11) = 0 → (PX12_value_54  a0 a1 a2 h))))) ∧ (¬ a0 = (-1) → ((PX12_isIn a0.toInt64 0 3) ∧ (((FX12_isIn a0.toInt64 0 3) = 0 → (PX12_value_58  a0 a1 a2 h)) ∧ (¬ (FX12_isIn a0.toInt64 0 3) = 0 → ((PX12_isIn a1.toInt64 0 3) ∧ (((FX12_isIn a1.toInt64 0 3) = 0 → (PX12_value_58  a0 a1 a2 h)) ∧ (¬ (FX12_isIn a1.toInt64 0 3) = 0 → (PX12_value_54  a0 a1 a2 h)))))))))))
set_option maxRecDepth 100000 in
set_option maxHeartbeats 4000000 in
theorem tX12_value {X : fj_X} {Y : fj_Y} {l0 : Launch} {ad : Nat → Nat} (C : FC X Y l0 cX12_value 6 RX12 ({ frames := 1, cells := 0, slots := 0, locals := 25 } : Room) 0 0 (some .int)) (a0 : Int32) (a1 : Int32) (a2 : Int32) (h : ph_H) (hP : PX12_value a0 a1 a2 h) (hR : RETi X Y ad 50 SM cX12_value (FX12_value a0 a1 a2 h)) : FJ X Y ad 50 SM h 0 [(0, .ref (ad 0)), (1, .int a0), (2, .int a1), (3, .int a2)] [] := by
  unfold PX12_value at hP
  unfold FX12_value at hR
  refine j_iload_n C dX12_value_0 rfl rfl ?_
  refine j_i2l C dX12_value_1 ?_
  refine j_lconst (v := 0) C dX12_value_2 (by decide) ?_
  refine j_lconst (v := 1) C dX12_value_3 (by decide) ?_
  obtain ⟨p4, hP⟩ := hP
  refine j_callS C (MX12_isIn a2.toInt64 0 1 h p4) dX12_value_4 (CKX12_isIn (by decide)) ⟨rfl, rfl⟩ lk_RX12_169 st_X12_isIn rfl (Nat.le_of_ble_eq_true rfl) ?_
  intro r S' h' hq
  obtain ⟨rfl, hh, rfl, hb6⟩ := hq
  rw [hh]
  refine j_if_eq (tgt := 58) C dX12_value_7 (by decide) (fun c0 => ?_) (fun c0 => ?_)
  · have hP := hP.1 c0
    rw [if_pos c0] at hR
    exact j_vl (tX12_value_58 C  a0 a1 a2 h hP hR) ⟨rfl, rfl, rfl, rfl, trivial⟩
  · have hP := hP.2 c0
    rw [if_neg c0] at hR
    refine j_iload_n C dX12_value_10 rfl rfl ?_
    refine j_iconst (v := (-1)) C dX12_value_11 (by decide) ?_
    refine j_icmp_ne (tgt := 30) C dX12_value_12 (by decide) (fun c1 => ?_) (fun c1 => ?_)
    · have hP := hP.2 c1
      rw [if_neg c1] at hR
      refine j_iload_n C dX12_value_30 rfl rfl ?_
      refine j_i2l C dX12_value_31 ?_
      refine j_lconst (v := 0) C dX12_value_32 (by decide) ?_
      refine j_ldc2 (v := 3) C dX12_value_33 kl_RX12_167 ?_
      obtain ⟨p4, hP⟩ := hP
      refine j_callS C (MX12_isIn a0.toInt64 0 3 h p4) dX12_value_36 (CKX12_isIn (by decide)) ⟨rfl, rfl⟩ lk_RX12_169 st_X12_isIn rfl (Nat.le_of_ble_eq_true rfl) ?_
      intro r S' h' hq
      obtain ⟨rfl, hh, rfl, hb6⟩ := hq
      rw [hh]
      refine j_if_eq (tgt := 58) C dX12_value_39 (by decide) (fun c2 => ?_) (fun c2 => ?_)
      · have hP := hP.1 c2
        rw [if_pos c2] at hR
        exact j_vl (tX12_value_58 C  a0 a1 a2 h hP hR) ⟨rfl, rfl, rfl, rfl, trivial⟩
      · have hP := hP.2 c2
        rw [if_neg c2] at hR
        refine j_iload_n C dX12_value_42 rfl rfl ?_
        refine j_i2l C dX12_value_43 ?_
        refine j_lconst (v := 0) C dX12_value_44 (by decide) ?_
        refine j_ldc2 (v := 3) C dX12_value_45 kl_RX12_167 ?_
        obtain ⟨p4, hP⟩ := hP
        refine j_callS C (MX12_isIn a1.toInt64 0 3 h p4) dX12_value_48 (CKX12_isIn (by decide)) ⟨rfl, rfl⟩ lk_RX12_169 st_X12_isIn rfl (Nat.le_of_ble_eq_true rfl) ?_
        intro r S' h' hq
        obtain ⟨rfl, hh, rfl, hb6⟩ := hq
        rw [hh]
        refine j_if_eq (tgt := 58) C dX12_value_51 (by decide) (fun c3 => ?_) (fun c3 => ?_)
        · have hP := hP.1 c3
          rw [if_pos c3] at hR
          exact j_vl (tX12_value_58 C  a0 a1 a2 h hP hR) ⟨rfl, rfl, rfl, rfl, trivial⟩
        · have hP := hP.2 c3
          rw [if_neg c3] at hR
          exact j_vl (tX12_value_54 C  a0 a1 a2 h hP hR) ⟨rfl, rfl, rfl, rfl, trivial⟩
    · have hP := hP.1 c1
      rw [if_pos c1] at hR
      refine j_iload_n C dX12_value_15 rfl rfl ?_
      refine j_i2l C dX12_value_16 ?_
      refine j_lconst (v := 0) C dX12_value_17 (by decide) ?_
      refine j_ldc2 (v := 11) C dX12_value_18 kl_RX12_175 ?_
      obtain ⟨p4, hP⟩ := hP
      refine j_callS C (MX12_isIn a1.toInt64 0 11 h p4) dX12_value_21 (CKX12_isIn (by decide)) ⟨rfl, rfl⟩ lk_RX12_169 st_X12_isIn rfl (Nat.le_of_ble_eq_true rfl) ?_
      intro r S' h' hq
      obtain ⟨rfl, hh, rfl, hb6⟩ := hq
      rw [hh]
      refine j_if_eq (tgt := 58) C dX12_value_24 (by decide) (fun c2 => ?_) (fun c2 => ?_)
      · have hP := hP.1 c2
        rw [if_pos c2] at hR
        exact j_vl (tX12_value_58 C  a0 a1 a2 h hP hR) ⟨rfl, rfl, rfl, rfl, trivial⟩
      · have hP := hP.2 c2
        rw [if_neg c2] at hR
        refine j_goto (tgt := 54) C dX12_value_27 (by decide) ?_
        exact j_vl (tX12_value_54 C  a0 a1 a2 h hP hR) ⟨rfl, rfl, rfl, rfl, trivial⟩
theorem MX12_value {l0 : Launch} {Y : fj_Y} {ad : Nat → Nat} (a0 : Int32) (a1 : Int32) (a2 : Int32) (h : ph_H) (hP : PX12_value a0 a1 a2 h) : MI l0 yX12_value cX12_value 6 (some .int) ({ frames := 1, cells := 0, slots := 0, locals := 25 } : Room) Y ad 50 SM h [.ref (ad 0), .int a0, .int a1, .int a2] (fun r S' h' => S' = SM ∧ h' = (FX12_value a0 a1 a2 h).2 ∧ r = (FX12_value a0 a1 a2 h).1) := met_i (by decide) (Nat.le_of_ble_eq_true rfl) (fun _ _ _ _ => rfl) (fun X C K => j_vl (tX12_value C a0 a1 a2 h hP (fun pc lv hd => K _ _ _ ⟨rfl, rfl, rfl⟩ pc lv hd)) ⟨rfl, rfl, rfl, rfl, trivial⟩)

-- X12_isThing
def FX12_isThing (a0 : Int32) (h : ph_H) : Int32 := if (h 0 36) = 0 then (0) else (if a0 < 0 then (0) else (if (h 24 ((h 0 42).toNatClampNeg)) ≤ a0 then (0) else (1)))
def PX12_isThing (a0 : Int32) (h : ph_H) : Prop := ((h 0 36) = 0 → (True)) ∧ (¬ (h 0 36) = 0 → ((a0 < 0 → (True)) ∧ (¬ a0 < 0 → (vp_in (h 0 42) 301 ∧ (((h 24 ((h 0 42).toNatClampNeg)) ≤ a0 → (True)) ∧ (¬ (h 24 ((h 0 42).toNatClampNeg)) ≤ a0 → (True)))))))
set_option maxRecDepth 100000 in
set_option maxHeartbeats 4000000 in
theorem tX12_isThing {X : fj_X} {Y : fj_Y} {l0 : Launch} {ad : Nat → Nat} (C : FC X Y l0 cX12_isThing 2 RX12 ({ frames := 0, cells := 0, slots := 0, locals := 0 } : Room) 0 0 (some .boolean)) (a0 : Int32) (h : ph_H) (hP : PX12_isThing a0 h) (hR : RETq X Y ad 50 SM h cX12_isThing (FX12_isThing a0 h)) : FJ X Y ad 50 SM h 0 [(0, .ref (ad 0)), (1, .int a0)] [] := by
  unfold PX12_isThing at hP
  unfold FX12_isThing at hR
  refine j_aload_n C dX12_isThing_0 rfl rfl ?_
  refine gM_294 (v := (h 0 36)) C dX12_isThing_1 rfl ?_
  refine j_if_eq (tgt := 28) C dX12_isThing_4 (by decide) (fun c0 => ?_) (fun c0 => ?_)
  · have hP := hP.1 c0
    rw [if_pos c0] at hR
    refine j_iconst (v := 0) C dX12_isThing_28 (by decide) ?_
    exact hR bo_0 _ _ dX12_isThing_29
  · have hP := hP.2 c0
    rw [if_neg c0] at hR
    refine j_iload_n C dX12_isThing_7 rfl rfl ?_
    refine j_if_lt (tgt := 28) C dX12_isThing_8 (by decide) (fun c1 => ?_) (fun c1 => ?_)
    · have hP := hP.1 c1
      rw [if_pos c1] at hR
      refine j_iconst (v := 0) C dX12_isThing_28 (by decide) ?_
      exact hR bo_0 _ _ dX12_isThing_29
    · have hP := hP.2 c1
      rw [if_neg c1] at hR
      refine j_iload_n C dX12_isThing_11 rfl rfl ?_
      refine j_aload_n C dX12_isThing_12 rfl rfl ?_
      refine gM_80 C dX12_isThing_13 ?_
      refine j_aload_n C dX12_isThing_16 rfl rfl ?_
      refine gM_316 (v := (h 0 42)) C dX12_isThing_17 rfl ?_
      obtain ⟨p5, hP⟩ := hP
      refine j_iald (k := 24) (v := (h 24 ((h 0 42).toNatClampNeg))) C dX12_isThing_20 (by decide) rfl p5 rfl ?_
      refine j_icmp_ge (tgt := 28) C dX12_isThing_21 (by decide) (fun c2 => ?_) (fun c2 => ?_)
      · have hP := hP.1 c2
        rw [if_pos c2] at hR
        refine j_iconst (v := 0) C dX12_isThing_28 (by decide) ?_
        exact hR bo_0 _ _ dX12_isThing_29
      · have hP := hP.2 c2
        rw [if_neg c2] at hR
        refine j_iconst (v := 1) C dX12_isThing_24 (by decide) ?_
        refine j_goto (tgt := 29) C dX12_isThing_25 (by decide) ?_
        exact hR bo_1 _ _ dX12_isThing_29
theorem MX12_isThing {l0 : Launch} {Y : fj_Y} {ad : Nat → Nat} (a0 : Int32) (h : ph_H) (hP : PX12_isThing a0 h) : MI l0 yX12_isThing cX12_isThing 2 (some .boolean) ({ frames := 0, cells := 0, slots := 0, locals := 0 } : Room) Y ad 50 SM h [.ref (ad 0), .int a0] (fun r S' h' => S' = SM ∧ h' = h ∧ r = FX12_isThing a0 h ∧ bo r) := met_i (by decide) (Nat.le_of_ble_eq_true rfl) (fun _ _ _ q => bo_n q.2.2.2) (fun X C K => j_vl (tX12_isThing C a0 h hP (fun b pc lv hd => K _ _ _ ⟨rfl, rfl, rfl, b⟩ pc lv hd)) ⟨rfl, rfl, trivial⟩)

-- X12_thing
def FX12_thing (a0 : Int32) (a1 : Int32) (h : ph_H) : Int32 × ph_H := if (h 0 36) = 0 then (((-2), (hs h 0 0 0))) else (if (FX12_isThing a0 (hs h 0 0 0)) = 0 then (((-1), (hs h 0 0 0))) else (if (FX12_isIn a1.toInt64 0 1) = 0 then (((-1), (hs h 0 0 0))) else (if a1 = 0 then (((h 25 (((12 * (h 0 42)) + a0).toNatClampNeg)), (hs h 0 0 0))) else (if (h 25 (((12 * (h 0 42)) + a0).toNatClampNeg)) = 1 then (((h 27 (((12 * (h 0 42)) + a0).toNatClampNeg)), (hs h 0 0 0))) else (if 0 ≤ (h 26 (((12 * (h 0 42)) + a0).toNatClampNeg)) then (((h 26 (((12 * (h 0 42)) + a0).toNatClampNeg)), (hs h 0 0 0))) else (((-2), (hs h 0 0 0))))))))
def PX12_thing (a0 : Int32) (a1 : Int32) (h : ph_H) : Prop := ((h 0 36) = 0 → (True)) ∧ (¬ (h 0 36) = 0 → ((PX12_isThing a0 (hs h 0 0 0)) ∧ (((FX12_isThing a0 (hs h 0 0 0)) = 0 → (True)) ∧ (¬ (FX12_isThing a0 (hs h 0 0 0)) = 0 → ((PX12_isIn a1.toInt64 0 1) ∧ (((FX12_isIn a1.toInt64 0 1) = 0 → (True)) ∧ (¬ (FX12_isIn a1.toInt64 0 1) = 0 → (vp_in ((12 * (h 0 42)) + a0) 3612 ∧ (vp_in ((12 * (h 0 42)) + a0) 3612 ∧ ((a1 = 0 → (True)) ∧ (¬ a1 = 0 → (((h 25 (((12 * (h 0 42)) + a0).toNatClampNeg)) = 1 → (vp_in ((12 * (h 0 42)) + a0) 3612 ∧ (True))) ∧ (¬ (h 25 (((12 * (h 0 42)) + a0).toNatClampNeg)) = 1 → ((0 ≤ (h 26 (((12 * (h 0 42)) + a0).toNatClampNeg)) → (True)) ∧ (¬ 0 ≤ (h 26 (((12 * (h 0 42)) + a0).toNatClampNeg)) → (True))))))))))))))))
set_option maxRecDepth 100000 in
set_option maxHeartbeats 4000000 in
theorem tX12_thing {X : fj_X} {Y : fj_Y} {l0 : Launch} {ad : Nat → Nat} (C : FC X Y l0 cX12_thing 5 RX12 ({ frames := 1, cells := 0, slots := 0, locals := 25 } : Room) 0 0 (some .int)) (a0 : Int32) (a1 : Int32) (h : ph_H) (hP : PX12_thing a0 a1 h) (hR : RETi X Y ad 50 SM cX12_thing (FX12_thing a0 a1 h)) : FJ X Y ad 50 SM h 0 [(0, .ref (ad 0)), (1, .int a0), (2, .int a1)] [] := by
  unfold PX12_thing at hP
  unfold FX12_thing at hR
  refine j_aload_n C dX12_thing_0 rfl rfl ?_
  refine j_iconst (v := 0) C dX12_thing_1 (by decide) ?_
  refine pM_164 C dX12_thing_2 ?_
  refine j_aload_n C dX12_thing_5 rfl rfl ?_
  refine gM_294 (v := (h 0 36)) C dX12_thing_6 (hz_i (by decide)) ?_
  refine j_if_ne (tgt := 15) C dX12_thing_9 (by decide) (fun c0 => ?_) (fun c0 => ?_)
  · have hP := hP.2 c0
    rw [if_neg c0] at hR
    refine j_aload_n C dX12_thing_15 rfl rfl ?_
    refine j_iload_n C dX12_thing_16 rfl rfl ?_
    obtain ⟨p2, hP⟩ := hP
    refine j_callV C (MX12_isThing a0 (hs h 0 0 0) p2) dX12_thing_17 (CKX12_isThing (by decide)) ⟨rfl, rfl⟩ lk_RX12_322 in_X12_isThing se_X12_isThing (by decide) rfl rfl rfl (Nat.le_of_ble_eq_true rfl) ?_
    intro r S' h' hq
    obtain ⟨rfl, hh, rfl, hb4⟩ := hq
    rw [hh]
    refine j_if_eq (tgt := 33) C dX12_thing_20 (by decide) (fun c1 => ?_) (fun c1 => ?_)
    · have hP := hP.1 c1
      rw [if_pos c1] at hR
      refine j_iconst (v := (-1)) C dX12_thing_33 (by decide) ?_
      exact hR _ _ dX12_thing_34
    · have hP := hP.2 c1
      rw [if_neg c1] at hR
      refine j_iload_n C dX12_thing_23 rfl rfl ?_
      refine j_i2l C dX12_thing_24 ?_
      refine j_lconst (v := 0) C dX12_thing_25 (by decide) ?_
      refine j_lconst (v := 1) C dX12_thing_26 (by decide) ?_
      obtain ⟨p4, hP⟩ := hP
      refine j_callS C (MX12_isIn a1.toInt64 0 1 (hs h 0 0 0) p4) dX12_thing_27 (CKX12_isIn (by decide)) ⟨rfl, rfl⟩ lk_RX12_169 st_X12_isIn rfl (Nat.le_of_ble_eq_true rfl) ?_
      intro r S' h' hq
      obtain ⟨rfl, hh, rfl, hb6⟩ := hq
      rw [hh]
      refine j_if_ne (tgt := 35) C dX12_thing_30 (by decide) (fun c2 => ?_) (fun c2 => ?_)
      · have hP := hP.2 c2
        rw [if_neg c2] at hR
        refine j_aload_n C dX12_thing_35 rfl rfl ?_
        refine gM_83 C dX12_thing_36 ?_
        refine j_bipush (v := 12) C dX12_thing_39 (by decide) ?_
        refine j_aload_n C dX12_thing_41 rfl rfl ?_
        refine gM_316 (v := (h 0 42)) C dX12_thing_42 (hz_i (by decide)) ?_
        refine j_imul C dX12_thing_45 ?_
        refine j_iload_n C dX12_thing_46 rfl rfl ?_
        refine j_iadd C dX12_thing_47 ?_
        obtain ⟨p8, hP⟩ := hP
        refine j_iald (k := 25) (v := (h 25 (((12 * (h 0 42)) + a0).toNatClampNeg))) C dX12_thing_48 (by decide) rfl p8 (hz_k (by decide)) ?_
        refine j_istore_n C dX12_thing_49 rfl (by decide) rfl ?_
        refine j_aload_n C dX12_thing_50 rfl rfl ?_
        refine gM_86 C dX12_thing_51 ?_
        refine j_bipush (v := 12) C dX12_thing_54 (by decide) ?_
        refine j_aload_n C dX12_thing_56 rfl rfl ?_
        refine gM_316 (v := (h 0 42)) C dX12_thing_57 (hz_i (by decide)) ?_
        refine j_imul C dX12_thing_60 ?_
        refine j_iload_n C dX12_thing_61 rfl rfl ?_
        refine j_iadd C dX12_thing_62 ?_
        obtain ⟨p19, hP⟩ := hP
        refine j_iald (k := 26) (v := (h 26 (((12 * (h 0 42)) + a0).toNatClampNeg))) C dX12_thing_63 (by decide) rfl p19 (hz_k (by decide)) ?_
        refine j_istore C dX12_thing_64 (by decide) rfl ?_
        refine j_iload_n C dX12_thing_66 rfl rfl ?_
        refine j_if_ne (tgt := 74) C dX12_thing_67 (by decide) (fun c3 => ?_) (fun c3 => ?_)
        · have hP := hP.2 c3
          rw [if_neg c3] at hR
          refine j_iload_n C dX12_thing_74 rfl rfl ?_
          refine j_iconst (v := 1) C dX12_thing_75 (by decide) ?_
          refine j_icmp_ne (tgt := 96) C dX12_thing_76 (by decide) (fun c4 => ?_) (fun c4 => ?_)
          · have hP := hP.2 c4
            rw [if_neg c4] at hR
            refine j_iload C dX12_thing_96 rfl ?_
            refine j_if_ge (tgt := 106) C dX12_thing_98 (by decide) (fun c5 => ?_) (fun c5 => ?_)
            · have hP := hP.1 c5
              rw [if_pos c5] at hR
              refine j_iload C dX12_thing_106 rfl ?_
              exact hR _ _ dX12_thing_108
            · have hP := hP.2 c5
              rw [if_neg c5] at hR
              refine j_bipush (v := (-2)) C dX12_thing_101 (by decide) ?_
              refine j_goto (tgt := 108) C dX12_thing_103 (by decide) ?_
              exact hR _ _ dX12_thing_108
          · have hP := hP.1 c4
            rw [if_pos c4] at hR
            refine j_aload_n C dX12_thing_79 rfl rfl ?_
            refine gM_89 C dX12_thing_80 ?_
            refine j_bipush (v := 12) C dX12_thing_83 (by decide) ?_
            refine j_aload_n C dX12_thing_85 rfl rfl ?_
            refine gM_316 (v := (h 0 42)) C dX12_thing_86 (hz_i (by decide)) ?_
            refine j_imul C dX12_thing_89 ?_
            refine j_iload_n C dX12_thing_90 rfl rfl ?_
            refine j_iadd C dX12_thing_91 ?_
            obtain ⟨p8, hP⟩ := hP
            refine j_iald (k := 27) (v := (h 27 (((12 * (h 0 42)) + a0).toNatClampNeg))) C dX12_thing_92 (by decide) rfl p8 (hz_k (by decide)) ?_
            refine j_goto (tgt := 108) C dX12_thing_93 (by decide) ?_
            exact hR _ _ dX12_thing_108
        · have hP := hP.1 c3
          rw [if_pos c3] at hR
          refine j_iload_n C dX12_thing_70 rfl rfl ?_
          refine j_goto (tgt := 108) C dX12_thing_71 (by decide) ?_
          exact hR _ _ dX12_thing_108
      · have hP := hP.1 c2
        rw [if_pos c2] at hR
        refine j_iconst (v := (-1)) C dX12_thing_33 (by decide) ?_
        exact hR _ _ dX12_thing_34
  · have hP := hP.1 c0
    rw [if_pos c0] at hR
    refine j_bipush (v := (-2)) C dX12_thing_12 (by decide) ?_
    exact hR _ _ dX12_thing_14
theorem MX12_thing {l0 : Launch} {Y : fj_Y} {ad : Nat → Nat} (a0 : Int32) (a1 : Int32) (h : ph_H) (hP : PX12_thing a0 a1 h) : MI l0 yX12_thing cX12_thing 5 (some .int) ({ frames := 1, cells := 0, slots := 0, locals := 25 } : Room) Y ad 50 SM h [.ref (ad 0), .int a0, .int a1] (fun r S' h' => S' = SM ∧ h' = (FX12_thing a0 a1 h).2 ∧ r = (FX12_thing a0 a1 h).1) := met_i (by decide) (Nat.le_of_ble_eq_true rfl) (fun _ _ _ _ => rfl) (fun X C K => j_vl (tX12_thing C a0 a1 h hP (fun pc lv hd => K _ _ _ ⟨rfl, rfl, rfl⟩ pc lv hd)) ⟨rfl, rfl, rfl, trivial⟩)

-- X12_place
def FX12_place_79  (x1 : Int32) (x2 : Int32) (x3 : Int32) (s0 : Int32) (h : ph_H) : Int32 × ph_H := if x3 = 0 then ((0, (hs h 0 0 s0))) else (((h 28 ((((192 * (h 0 42)) + (16 * x1)) + x2).toNatClampNeg)), (hs h 0 0 s0)))
def PX12_place_79  (x1 : Int32) (x2 : Int32) (x3 : Int32) (s0 : Int32) (h : ph_H) : Prop := (x3 = 0 → (True)) ∧ (¬ x3 = 0 → (vp_in (((192 * (h 0 42)) + (16 * x1)) + x2) 57792 ∧ (True)))
set_option maxRecDepth 100000 in
set_option maxHeartbeats 4000000 in
theorem tX12_place_79 {X : fj_X} {Y : fj_Y} {l0 : Launch} {ad : Nat → Nat} (C : FC X Y l0 cX12_place 4 RX12 ({ frames := 1, cells := 0, slots := 0, locals := 25 } : Room) 0 0 (some .int)) (x1 : Int32) (x2 : Int32) (x3 : Int32) (s0 : Int32) (h : ph_H) (hP : PX12_place_79  x1 x2 x3 s0 h) (hR : RETi X Y ad 50 SM cX12_place (FX12_place_79  x1 x2 x3 s0 h)) : FJ X Y ad 50 SM h 79 [(0, .ref (ad 0)), (1, .int x1), (2, .int x2), (3, .int x3)] [.int s0, .ref (ad 0)] := by
  unfold PX12_place_79 at hP
  unfold FX12_place_79 at hR
  refine pM_164 C dX12_place_79 ?_
  refine j_iload_n C dX12_place_82 rfl rfl ?_
  refine j_if_eq (tgt := 109) C dX12_place_83 (by decide) (fun c0 => ?_) (fun c0 => ?_)
  · have hP := hP.1 c0
    rw [if_pos c0] at hR
    refine j_iconst (v := 0) C dX12_place_109 (by decide) ?_
    exact hR _ _ dX12_place_110
  · have hP := hP.2 c0
    rw [if_neg c0] at hR
    refine j_aload_n C dX12_place_86 rfl rfl ?_
    refine gM_93 C dX12_place_87 ?_
    refine j_sipush (v := 192) C dX12_place_90 (by decide) ?_
    refine j_aload_n C dX12_place_93 rfl rfl ?_
    refine gM_316 (v := (h 0 42)) C dX12_place_94 (hz_i (by decide)) ?_
    refine j_imul C dX12_place_97 ?_
    refine j_bipush (v := 16) C dX12_place_98 (by decide) ?_
    refine j_iload_n C dX12_place_100 rfl rfl ?_
    refine j_imul C dX12_place_101 ?_
    refine j_iadd C dX12_place_102 ?_
    refine j_iload_n C dX12_place_103 rfl rfl ?_
    refine j_iadd C dX12_place_104 ?_
    obtain ⟨p12, hP⟩ := hP
    refine j_iald (k := 28) (v := (h 28 ((((192 * (h 0 42)) + (16 * x1)) + x2).toNatClampNeg))) C dX12_place_105 (by decide) rfl p12 (hz_k (by decide)) ?_
    refine j_goto (tgt := 110) C dX12_place_106 (by decide) ?_
    exact hR _ _ dX12_place_110
def FX12_place_57  (x1 : Int32) (x2 : Int32) (s0 : Int32) (h : ph_H) : Int32 × ph_H := if (h 0 36) = 0 then (FX12_place_79  x1 x2 s0 2 h) else (if s0 = 0 then (FX12_place_79  x1 x2 s0 1 h) else (FX12_place_79  x1 x2 s0 0 h))
def PX12_place_57  (x1 : Int32) (x2 : Int32) (s0 : Int32) (h : ph_H) : Prop := ((h 0 36) = 0 → (PX12_place_79  x1 x2 s0 2 h)) ∧ (¬ (h 0 36) = 0 → ((s0 = 0 → (PX12_place_79  x1 x2 s0 1 h)) ∧ (¬ s0 = 0 → (PX12_place_79  x1 x2 s0 0 h))))
set_option maxRecDepth 100000 in
set_option maxHeartbeats 4000000 in
theorem tX12_place_57 {X : fj_X} {Y : fj_Y} {l0 : Launch} {ad : Nat → Nat} (C : FC X Y l0 cX12_place 4 RX12 ({ frames := 1, cells := 0, slots := 0, locals := 25 } : Room) 0 0 (some .int)) (x1 : Int32) (x2 : Int32) (s0 : Int32) (h : ph_H) (hP : PX12_place_57  x1 x2 s0 h) (hR : RETi X Y ad 50 SM cX12_place (FX12_place_57  x1 x2 s0 h)) : FJ X Y ad 50 SM h 57 [(0, .ref (ad 0)), (1, .int x1), (2, .int x2)] [.int s0] := by
  unfold PX12_place_57 at hP
  unfold FX12_place_57 at hR
  refine j_istore_n C dX12_place_57 rfl (by decide) rfl ?_
  refine j_aload_n C dX12_place_58 rfl rfl ?_
  refine j_aload_n C dX12_place_59 rfl rfl ?_
  refine gM_294 (v := (h 0 36)) C dX12_place_60 rfl ?_
  refine j_if_ne (tgt := 70) C dX12_place_63 (by decide) (fun c0 => ?_) (fun c0 => ?_)
  · have hP := hP.2 c0
    rw [if_neg c0] at hR
    refine j_iload_n C dX12_place_70 rfl rfl ?_
    refine j_if_eq (tgt := 78) C dX12_place_71 (by decide) (fun c1 => ?_) (fun c1 => ?_)
    · have hP := hP.1 c1
      rw [if_pos c1] at hR
      refine j_iconst (v := 1) C dX12_place_78 (by decide) ?_
      exact j_vl (tX12_place_79 C  x1 x2 s0 1 h hP hR) ⟨rfl, rfl, rfl, rfl, trivial⟩
    · have hP := hP.2 c1
      rw [if_neg c1] at hR
      refine j_iconst (v := 0) C dX12_place_74 (by decide) ?_
      refine j_goto (tgt := 79) C dX12_place_75 (by decide) ?_
      exact j_vl (tX12_place_79 C  x1 x2 s0 0 h hP hR) ⟨rfl, rfl, rfl, rfl, trivial⟩
  · have hP := hP.1 c0
    rw [if_pos c0] at hR
    refine j_iconst (v := 2) C dX12_place_66 (by decide) ?_
    refine j_goto (tgt := 79) C dX12_place_67 (by decide) ?_
    exact j_vl (tX12_place_79 C  x1 x2 s0 2 h hP hR) ⟨rfl, rfl, rfl, rfl, trivial⟩
def FX12_place_56  (x1 : Int32) (x2 : Int32) (h : ph_H) : Int32 × ph_H := FX12_place_57  x1 x2 0 h
def PX12_place_56  (x1 : Int32) (x2 : Int32) (h : ph_H) : Prop := PX12_place_57  x1 x2 0 h
set_option maxRecDepth 100000 in
set_option maxHeartbeats 4000000 in
theorem tX12_place_56 {X : fj_X} {Y : fj_Y} {l0 : Launch} {ad : Nat → Nat} (C : FC X Y l0 cX12_place 4 RX12 ({ frames := 1, cells := 0, slots := 0, locals := 25 } : Room) 0 0 (some .int)) (x1 : Int32) (x2 : Int32) (h : ph_H) (hP : PX12_place_56  x1 x2 h) (hR : RETi X Y ad 50 SM cX12_place (FX12_place_56  x1 x2 h)) : FJ X Y ad 50 SM h 56 [(0, .ref (ad 0)), (1, .int x1), (2, .int x2)] [] := by
  unfold PX12_place_56 at hP
  unfold FX12_place_56 at hR
  refine j_iconst (v := 0) C dX12_place_56 (by decide) ?_
  exact j_vl (tX12_place_57 C  x1 x2 0 h hP hR) ⟨rfl, rfl, rfl, trivial⟩
def FX12_place (a0 : Int32) (a1 : Int32) (h : ph_H) : Int32 × ph_H := if (FX12_isThing a0 h) = 0 then (FX12_place_56  a0 a1 h) else (if (h 25 (((12 * (h 0 42)) + a0).toNatClampNeg)) = 1 then (if (FX12_isIn a1.toInt64 0 (((h 27 (((12 * (h 0 42)) + a0).toNatClampNeg)) - 1).toInt64)) = 0 then (FX12_place_56  a0 a1 h) else (FX12_place_57  a0 a1 1 h)) else (FX12_place_56  a0 a1 h))
def PX12_place (a0 : Int32) (a1 : Int32) (h : ph_H) : Prop := (PX12_isThing a0 h) ∧ (((FX12_isThing a0 h) = 0 → (PX12_place_56  a0 a1 h)) ∧ (¬ (FX12_isThing a0 h) = 0 → (vp_in ((12 * (h 0 42)) + a0) 3612 ∧ (((h 25 (((12 * (h 0 42)) + a0).toNatClampNeg)) = 1 → (vp_in ((12 * (h 0 42)) + a0) 3612 ∧ ((PX12_isIn a1.toInt64 0 (((h 27 (((12 * (h 0 42)) + a0).toNatClampNeg)) - 1).toInt64)) ∧ (((FX12_isIn a1.toInt64 0 (((h 27 (((12 * (h 0 42)) + a0).toNatClampNeg)) - 1).toInt64)) = 0 → (PX12_place_56  a0 a1 h)) ∧ (¬ (FX12_isIn a1.toInt64 0 (((h 27 (((12 * (h 0 42)) + a0).toNatClampNeg)) - 1).toInt64)) = 0 → (PX12_place_57  a0 a1 1 h)))))) ∧ (¬ (h 25 (((12 * (h 0 42)) + a0).toNatClampNeg)) = 1 → (PX12_place_56  a0 a1 h))))))
set_option maxRecDepth 100000 in
set_option maxHeartbeats 4000000 in
theorem tX12_place {X : fj_X} {Y : fj_Y} {l0 : Launch} {ad : Nat → Nat} (C : FC X Y l0 cX12_place 4 RX12 ({ frames := 1, cells := 0, slots := 0, locals := 25 } : Room) 0 0 (some .int)) (a0 : Int32) (a1 : Int32) (h : ph_H) (hP : PX12_place a0 a1 h) (hR : RETi X Y ad 50 SM cX12_place (FX12_place a0 a1 h)) : FJ X Y ad 50 SM h 0 [(0, .ref (ad 0)), (1, .int a0), (2, .int a1)] [] := by
  unfold PX12_place at hP
  unfold FX12_place at hR
  refine j_aload_n C dX12_place_0 rfl rfl ?_
  refine j_iload_n C dX12_place_1 rfl rfl ?_
  obtain ⟨p2, hP⟩ := hP
  refine j_callV C (MX12_isThing a0 h p2) dX12_place_2 (CKX12_isThing (by decide)) ⟨rfl, rfl⟩ lk_RX12_322 in_X12_isThing se_X12_isThing (by decide) rfl rfl rfl (Nat.le_of_ble_eq_true rfl) ?_
  intro r S' h' hq
  obtain ⟨rfl, hh, rfl, hb4⟩ := hq
  rw [hh]
  refine j_if_eq (tgt := 56) C dX12_place_5 (by decide) (fun c0 => ?_) (fun c0 => ?_)
  · have hP := hP.1 c0
    rw [if_pos c0] at hR
    exact j_vl (tX12_place_56 C  a0 a1 h hP hR) ⟨rfl, rfl, rfl, trivial⟩
  · have hP := hP.2 c0
    rw [if_neg c0] at hR
    refine j_aload_n C dX12_place_8 rfl rfl ?_
    refine gM_83 C dX12_place_9 ?_
    refine j_bipush (v := 12) C dX12_place_12 (by decide) ?_
    refine j_aload_n C dX12_place_14 rfl rfl ?_
    refine gM_316 (v := (h 0 42)) C dX12_place_15 rfl ?_
    refine j_imul C dX12_place_18 ?_
    refine j_iload_n C dX12_place_19 rfl rfl ?_
    refine j_iadd C dX12_place_20 ?_
    obtain ⟨p8, hP⟩ := hP
    refine j_iald (k := 25) (v := (h 25 (((12 * (h 0 42)) + a0).toNatClampNeg))) C dX12_place_21 (by decide) rfl p8 rfl ?_
    refine j_iconst (v := 1) C dX12_place_22 (by decide) ?_
    refine j_icmp_ne (tgt := 56) C dX12_place_23 (by decide) (fun c1 => ?_) (fun c1 => ?_)
    · have hP := hP.2 c1
      rw [if_neg c1] at hR
      exact j_vl (tX12_place_56 C  a0 a1 h hP hR) ⟨rfl, rfl, rfl, trivial⟩
    · have hP := hP.1 c1
      rw [if_pos c1] at hR
      refine j_iload_n C dX12_place_26 rfl rfl ?_
      refine j_i2l C dX12_place_27 ?_
      refine j_lconst (v := 0) C dX12_place_28 (by decide) ?_
      refine j_aload_n C dX12_place_29 rfl rfl ?_
      refine gM_89 C dX12_place_30 ?_
      refine j_bipush (v := 12) C dX12_place_33 (by decide) ?_
      refine j_aload_n C dX12_place_35 rfl rfl ?_
      refine gM_316 (v := (h 0 42)) C dX12_place_36 rfl ?_
      refine j_imul C dX12_place_39 ?_
      refine j_iload_n C dX12_place_40 rfl rfl ?_
      refine j_iadd C dX12_place_41 ?_
      obtain ⟨p11, hP⟩ := hP
      refine j_iald (k := 27) (v := (h 27 (((12 * (h 0 42)) + a0).toNatClampNeg))) C dX12_place_42 (by decide) rfl p11 rfl ?_
      refine j_iconst (v := 1) C dX12_place_43 (by decide) ?_
      refine j_isub C dX12_place_44 ?_
      refine j_i2l C dX12_place_45 ?_
      obtain ⟨p16, hP⟩ := hP
      refine j_callS C (MX12_isIn a1.toInt64 0 (((h 27 (((12 * (h 0 42)) + a0).toNatClampNeg)) - 1).toInt64) h p16) dX12_place_46 (CKX12_isIn (by decide)) ⟨rfl, rfl⟩ lk_RX12_169 st_X12_isIn rfl (Nat.le_of_ble_eq_true rfl) ?_
      intro r S' h' hq
      obtain ⟨rfl, hh, rfl, hb18⟩ := hq
      rw [hh]
      refine j_if_eq (tgt := 56) C dX12_place_49 (by decide) (fun c2 => ?_) (fun c2 => ?_)
      · have hP := hP.1 c2
        rw [if_pos c2] at hR
        exact j_vl (tX12_place_56 C  a0 a1 h hP hR) ⟨rfl, rfl, rfl, trivial⟩
      · have hP := hP.2 c2
        rw [if_neg c2] at hR
        refine j_iconst (v := 1) C dX12_place_52 (by decide) ?_
        refine j_goto (tgt := 57) C dX12_place_53 (by decide) ?_
        exact j_vl (tX12_place_57 C  a0 a1 1 h hP hR) ⟨rfl, rfl, rfl, trivial⟩
theorem MX12_place {l0 : Launch} {Y : fj_Y} {ad : Nat → Nat} (a0 : Int32) (a1 : Int32) (h : ph_H) (hP : PX12_place a0 a1 h) : MI l0 yX12_place cX12_place 4 (some .int) ({ frames := 1, cells := 0, slots := 0, locals := 25 } : Room) Y ad 50 SM h [.ref (ad 0), .int a0, .int a1] (fun r S' h' => S' = SM ∧ h' = (FX12_place a0 a1 h).2 ∧ r = (FX12_place a0 a1 h).1) := met_i (by decide) (Nat.le_of_ble_eq_true rfl) (fun _ _ _ _ => rfl) (fun X C K => j_vl (tX12_place C a0 a1 h hP (fun pc lv hd => K _ _ _ ⟨rfl, rfl, rfl⟩ pc lv hd)) ⟨rfl, rfl, rfl, trivial⟩)

-- X12_thread
def FX12_thread (a0 : Int32) (a1 : Int32) (h : ph_H) : Int32 × ph_H := if (h 0 36) = 0 then (((-2), (hs h 0 0 0))) else (if (FX12_isIn a0.toInt64 0 3) = 0 then (((-1), (hs h 0 0 0))) else (if (FX12_isIn a1.toInt64 0 1) = 0 then (((-1), (hs h 0 0 0))) else (if a1 = 0 then (((h 22 (((4 * (h 0 42)) + a0).toNatClampNeg)), (hs h 0 0 0))) else (((h 23 (((4 * (h 0 42)) + a0).toNatClampNeg)), (hs h 0 0 0))))))
def PX12_thread (a0 : Int32) (a1 : Int32) (h : ph_H) : Prop := ((h 0 36) = 0 → (True)) ∧ (¬ (h 0 36) = 0 → ((PX12_isIn a0.toInt64 0 3) ∧ (((FX12_isIn a0.toInt64 0 3) = 0 → (True)) ∧ (¬ (FX12_isIn a0.toInt64 0 3) = 0 → ((PX12_isIn a1.toInt64 0 1) ∧ (((FX12_isIn a1.toInt64 0 1) = 0 → (True)) ∧ (¬ (FX12_isIn a1.toInt64 0 1) = 0 → ((a1 = 0 → (vp_in ((4 * (h 0 42)) + a0) 1204 ∧ (True))) ∧ (¬ a1 = 0 → (vp_in ((4 * (h 0 42)) + a0) 1204 ∧ (True)))))))))))
set_option maxRecDepth 100000 in
set_option maxHeartbeats 4000000 in
theorem tX12_thread {X : fj_X} {Y : fj_Y} {l0 : Launch} {ad : Nat → Nat} (C : FC X Y l0 cX12_thread 3 RX12 ({ frames := 1, cells := 0, slots := 0, locals := 25 } : Room) 0 0 (some .int)) (a0 : Int32) (a1 : Int32) (h : ph_H) (hP : PX12_thread a0 a1 h) (hR : RETi X Y ad 50 SM cX12_thread (FX12_thread a0 a1 h)) : FJ X Y ad 50 SM h 0 [(0, .ref (ad 0)), (1, .int a0), (2, .int a1)] [] := by
  unfold PX12_thread at hP
  unfold FX12_thread at hR
  refine j_aload_n C dX12_thread_0 rfl rfl ?_
  refine j_iconst (v := 0) C dX12_thread_1 (by decide) ?_
  refine pM_164 C dX12_thread_2 ?_
  refine j_aload_n C dX12_thread_5 rfl rfl ?_
  refine gM_294 (v := (h 0 36)) C dX12_thread_6 (hz_i (by decide)) ?_
  refine j_if_ne (tgt := 15) C dX12_thread_9 (by decide) (fun c0 => ?_) (fun c0 => ?_)
  · have hP := hP.2 c0
    rw [if_neg c0] at hR
    refine j_iload_n C dX12_thread_15 rfl rfl ?_
    refine j_i2l C dX12_thread_16 ?_
    refine j_lconst (v := 0) C dX12_thread_17 (by decide) ?_
    refine j_ldc2 (v := 3) C dX12_thread_18 kl_RX12_167 ?_
    obtain ⟨p4, hP⟩ := hP
    refine j_callS C (MX12_isIn a0.toInt64 0 3 (hs h 0 0 0) p4) dX12_thread_21 (CKX12_isIn (by decide)) ⟨rfl, rfl⟩ lk_RX12_169 st_X12_isIn rfl (Nat.le_of_ble_eq_true rfl) ?_
    intro r S' h' hq
    obtain ⟨rfl, hh, rfl, hb6⟩ := hq
    rw [hh]
    refine j_if_eq (tgt := 37) C dX12_thread_24 (by decide) (fun c1 => ?_) (fun c1 => ?_)
    · have hP := hP.1 c1
      rw [if_pos c1] at hR
      refine j_iconst (v := (-1)) C dX12_thread_37 (by decide) ?_
      exact hR _ _ dX12_thread_38
    · have hP := hP.2 c1
      rw [if_neg c1] at hR
      refine j_iload_n C dX12_thread_27 rfl rfl ?_
      refine j_i2l C dX12_thread_28 ?_
      refine j_lconst (v := 0) C dX12_thread_29 (by decide) ?_
      refine j_lconst (v := 1) C dX12_thread_30 (by decide) ?_
      obtain ⟨p4, hP⟩ := hP
      refine j_callS C (MX12_isIn a1.toInt64 0 1 (hs h 0 0 0) p4) dX12_thread_31 (CKX12_isIn (by decide)) ⟨rfl, rfl⟩ lk_RX12_169 st_X12_isIn rfl (Nat.le_of_ble_eq_true rfl) ?_
      intro r S' h' hq
      obtain ⟨rfl, hh, rfl, hb6⟩ := hq
      rw [hh]
      refine j_if_ne (tgt := 39) C dX12_thread_34 (by decide) (fun c2 => ?_) (fun c2 => ?_)
      · have hP := hP.2 c2
        rw [if_neg c2] at hR
        refine j_iload_n C dX12_thread_39 rfl rfl ?_
        refine j_if_ne (tgt := 59) C dX12_thread_40 (by decide) (fun c3 => ?_) (fun c3 => ?_)
        · have hP := hP.2 c3
          rw [if_neg c3] at hR
          refine j_aload_n C dX12_thread_59 rfl rfl ?_
          refine gM_77 C dX12_thread_60 ?_
          refine j_iconst (v := 4) C dX12_thread_63 (by decide) ?_
          refine j_aload_n C dX12_thread_64 rfl rfl ?_
          refine gM_316 (v := (h 0 42)) C dX12_thread_65 (hz_i (by decide)) ?_
          refine j_imul C dX12_thread_68 ?_
          refine j_iload_n C dX12_thread_69 rfl rfl ?_
          refine j_iadd C dX12_thread_70 ?_
          obtain ⟨p8, hP⟩ := hP
          refine j_iald (k := 23) (v := (h 23 (((4 * (h 0 42)) + a0).toNatClampNeg))) C dX12_thread_71 (by decide) rfl p8 (hz_k (by decide)) ?_
          exact hR _ _ dX12_thread_72
        · have hP := hP.1 c3
          rw [if_pos c3] at hR
          refine j_aload_n C dX12_thread_43 rfl rfl ?_
          refine gM_74 C dX12_thread_44 ?_
          refine j_iconst (v := 4) C dX12_thread_47 (by decide) ?_
          refine j_aload_n C dX12_thread_48 rfl rfl ?_
          refine gM_316 (v := (h 0 42)) C dX12_thread_49 (hz_i (by decide)) ?_
          refine j_imul C dX12_thread_52 ?_
          refine j_iload_n C dX12_thread_53 rfl rfl ?_
          refine j_iadd C dX12_thread_54 ?_
          obtain ⟨p8, hP⟩ := hP
          refine j_iald (k := 22) (v := (h 22 (((4 * (h 0 42)) + a0).toNatClampNeg))) C dX12_thread_55 (by decide) rfl p8 (hz_k (by decide)) ?_
          refine j_goto (tgt := 72) C dX12_thread_56 (by decide) ?_
          exact hR _ _ dX12_thread_72
      · have hP := hP.1 c2
        rw [if_pos c2] at hR
        refine j_iconst (v := (-1)) C dX12_thread_37 (by decide) ?_
        exact hR _ _ dX12_thread_38
  · have hP := hP.1 c0
    rw [if_pos c0] at hR
    refine j_bipush (v := (-2)) C dX12_thread_12 (by decide) ?_
    exact hR _ _ dX12_thread_14
theorem MX12_thread {l0 : Launch} {Y : fj_Y} {ad : Nat → Nat} (a0 : Int32) (a1 : Int32) (h : ph_H) (hP : PX12_thread a0 a1 h) : MI l0 yX12_thread cX12_thread 3 (some .int) ({ frames := 1, cells := 0, slots := 0, locals := 25 } : Room) Y ad 50 SM h [.ref (ad 0), .int a0, .int a1] (fun r S' h' => S' = SM ∧ h' = (FX12_thread a0 a1 h).2 ∧ r = (FX12_thread a0 a1 h).1) := met_i (by decide) (Nat.le_of_ble_eq_true rfl) (fun _ _ _ _ => rfl) (fun X C K => j_vl (tX12_thread C a0 a1 h hP (fun pc lv hd => K _ _ _ ⟨rfl, rfl, rfl⟩ pc lv hd)) ⟨rfl, rfl, rfl, trivial⟩)

-- X12_last
def FX12_last_63 (L36 : Int32 → Int32 → Int32 → Int32 → ph_H → Int32 × ph_H) (x1 : Int32) (x2 : Int32) (x4 : Int32) (s0 : Int32) (h : ph_H) : Int32 × ph_H := L36 x1 x2 s0 (x4 + 1) h
def PX12_last_63 (LP36 : Int32 → Int32 → Int32 → Int32 → ph_H → Prop) (x1 : Int32) (x2 : Int32) (x4 : Int32) (s0 : Int32) (h : ph_H) : Prop := LP36 x1 x2 s0 (x4 + 1) h
set_option maxRecDepth 100000 in
set_option maxHeartbeats 4000000 in
theorem tX12_last_63 {X : fj_X} {Y : fj_Y} {l0 : Launch} {ad : Nat → Nat} (C : FC X Y l0 cX12_last 5 RX12 ({ frames := 1, cells := 0, slots := 0, locals := 25 } : Room) 0 0 (some .int)) (L36 : Int32 → Int32 → Int32 → Int32 → ph_H → Int32 × ph_H) (LP36 : Int32 → Int32 → Int32 → Int32 → ph_H → Prop) (hL36 : ∀ (x1 : Int32) (x2 : Int32) (x3 : Int32) (x4 : Int32) (h : ph_H), LP36 x1 x2 x3 x4 h → RETi X Y ad 50 SM cX12_last (L36 x1 x2 x3 x4 h) → FJ X Y ad 50 SM h 36 [(0, .ref (ad 0)), (1, .int x1), (2, .int x2), (3, .int x3), (4, .int x4)] []) (x1 : Int32) (x2 : Int32) (x4 : Int32) (s0 : Int32) (h : ph_H) (hP : PX12_last_63 LP36 x1 x2 x4 s0 h) (hR : RETi X Y ad 50 SM cX12_last (FX12_last_63 L36 x1 x2 x4 s0 h)) : FJ X Y ad 50 SM h 63 [(0, .ref (ad 0)), (1, .int x1), (2, .int x2), (4, .int x4)] [.int s0] := by
  unfold PX12_last_63 at hP
  unfold FX12_last_63 at hR
  refine j_istore_n C dX12_last_63 rfl (by decide) rfl ?_
  refine j_iinc (v := (x4 + 1)) C dX12_last_64 rfl rfl (by decide) rfl ?_
  refine j_goto (tgt := 36) C dX12_last_67 (by decide) ?_
  exact j_vl (hL36 x1 x2 s0 (x4 + 1) h hP hR) ⟨rfl, rfl, rfl, rfl, rfl, trivial⟩
def FX12_last_62 (L36 : Int32 → Int32 → Int32 → Int32 → ph_H → Int32 × ph_H) (x1 : Int32) (x2 : Int32) (x3 : Int32) (x4 : Int32) (h : ph_H) : Int32 × ph_H := FX12_last_63 L36 x1 x2 x4 x3 h
def PX12_last_62 (LP36 : Int32 → Int32 → Int32 → Int32 → ph_H → Prop) (x1 : Int32) (x2 : Int32) (x3 : Int32) (x4 : Int32) (h : ph_H) : Prop := PX12_last_63 LP36 x1 x2 x4 x3 h
set_option maxRecDepth 100000 in
set_option maxHeartbeats 4000000 in
theorem tX12_last_62 {X : fj_X} {Y : fj_Y} {l0 : Launch} {ad : Nat → Nat} (C : FC X Y l0 cX12_last 5 RX12 ({ frames := 1, cells := 0, slots := 0, locals := 25 } : Room) 0 0 (some .int)) (L36 : Int32 → Int32 → Int32 → Int32 → ph_H → Int32 × ph_H) (LP36 : Int32 → Int32 → Int32 → Int32 → ph_H → Prop) (hL36 : ∀ (x1 : Int32) (x2 : Int32) (x3 : Int32) (x4 : Int32) (h : ph_H), LP36 x1 x2 x3 x4 h → RETi X Y ad 50 SM cX12_last (L36 x1 x2 x3 x4 h) → FJ X Y ad 50 SM h 36 [(0, .ref (ad 0)), (1, .int x1), (2, .int x2), (3, .int x3), (4, .int x4)] []) (x1 : Int32) (x2 : Int32) (x3 : Int32) (x4 : Int32) (h : ph_H) (hP : PX12_last_62 LP36 x1 x2 x3 x4 h) (hR : RETi X Y ad 50 SM cX12_last (FX12_last_62 L36 x1 x2 x3 x4 h)) : FJ X Y ad 50 SM h 62 [(0, .ref (ad 0)), (1, .int x1), (2, .int x2), (3, .int x3), (4, .int x4)] [] := by
  unfold PX12_last_62 at hP
  unfold FX12_last_62 at hR
  refine j_iload_n C dX12_last_62 rfl rfl ?_
  exact j_vl (tX12_last_63 C L36 LP36 hL36 x1 x2 x4 x3 h hP hR) ⟨rfl, rfl, rfl, rfl, trivial⟩
def FX12_last_36  : Nat → Int32 → Int32 → Int32 → Int32 → ph_H → Int32 × ph_H
  | 0, _, _, _, _, h => (0, h)
  | q + 1, x1, x2, x3, x4, h => if x2 < x4 then ((x3, h)) else (if (h 33 (x4.toNatClampNeg)) = x1 then (if x1 < 0 then (FX12_last_62 (FX12_last_36  q) x1 x2 x3 x4 h) else (FX12_last_63 (FX12_last_36  q) x1 x2 x4 x4 h)) else (FX12_last_62 (FX12_last_36  q) x1 x2 x3 x4 h))
def PX12_last_36  : Nat → Int32 → Int32 → Int32 → Int32 → ph_H → Prop
  | 0, _, _, _, _, _ => False
  | q + 1, x1, x2, x3, x4, h => (x2 < x4 → (True)) ∧ (¬ x2 < x4 → (vp_in x4 301 ∧ (((h 33 (x4.toNatClampNeg)) = x1 → ((x1 < 0 → (PX12_last_62 (PX12_last_36  q) x1 x2 x3 x4 h)) ∧ (¬ x1 < 0 → (PX12_last_63 (PX12_last_36  q) x1 x2 x4 x4 h)))) ∧ (¬ (h 33 (x4.toNatClampNeg)) = x1 → (PX12_last_62 (PX12_last_36  q) x1 x2 x3 x4 h)))))
set_option maxRecDepth 100000 in
set_option maxHeartbeats 4000000 in
theorem tX12_last_36 {X : fj_X} {Y : fj_Y} {l0 : Launch} {ad : Nat → Nat} (C : FC X Y l0 cX12_last 5 RX12 ({ frames := 1, cells := 0, slots := 0, locals := 25 } : Room) 0 0 (some .int)) : ∀ (q : Nat) (x1 : Int32) (x2 : Int32) (x3 : Int32) (x4 : Int32) (h : ph_H), PX12_last_36  q x1 x2 x3 x4 h → RETi X Y ad 50 SM cX12_last (FX12_last_36  q x1 x2 x3 x4 h) → FJ X Y ad 50 SM h 36 [(0, .ref (ad 0)), (1, .int x1), (2, .int x2), (3, .int x3), (4, .int x4)] [] := by
  intro q
  induction q with
  | zero =>
    intro x1 x2 x3 x4 h hP hR
    exact absurd hP id
  | succ q ih =>
    intro x1 x2 x3 x4 h hP hR
    unfold PX12_last_36 at hP
    unfold FX12_last_36 at hR
    refine j_iload C dX12_last_36 rfl ?_
    refine j_iload_n C dX12_last_38 rfl rfl ?_
    refine j_icmp_gt (tgt := 70) C dX12_last_39 (by decide) (fun c0 => ?_) (fun c0 => ?_)
    · have hP := hP.1 c0
      rw [if_pos c0] at hR
      refine j_iload_n C dX12_last_70 rfl rfl ?_
      exact hR _ _ dX12_last_71
    · have hP := hP.2 c0
      rw [if_neg c0] at hR
      refine j_aload_n C dX12_last_42 rfl rfl ?_
      refine gM_108 C dX12_last_43 ?_
      refine j_iload C dX12_last_46 rfl ?_
      obtain ⟨p3, hP⟩ := hP
      refine j_iald (k := 33) (v := (h 33 (x4.toNatClampNeg))) C dX12_last_48 (by decide) rfl p3 rfl ?_
      refine j_iload_n C dX12_last_49 rfl rfl ?_
      refine j_icmp_ne (tgt := 62) C dX12_last_50 (by decide) (fun c1 => ?_) (fun c1 => ?_)
      · have hP := hP.2 c1
        rw [if_neg c1] at hR
        exact j_vl (tX12_last_62 C (FX12_last_36  q) (PX12_last_36  q) (ih) x1 x2 x3 x4 h hP hR) ⟨rfl, rfl, rfl, rfl, rfl, trivial⟩
      · have hP := hP.1 c1
        rw [if_pos c1] at hR
        refine j_iload_n C dX12_last_53 rfl rfl ?_
        refine j_if_lt (tgt := 62) C dX12_last_54 (by decide) (fun c2 => ?_) (fun c2 => ?_)
        · have hP := hP.1 c2
          rw [if_pos c2] at hR
          exact j_vl (tX12_last_62 C (FX12_last_36  q) (PX12_last_36  q) (ih) x1 x2 x3 x4 h hP hR) ⟨rfl, rfl, rfl, rfl, rfl, trivial⟩
        · have hP := hP.2 c2
          rw [if_neg c2] at hR
          refine j_iload C dX12_last_57 rfl ?_
          refine j_goto (tgt := 63) C dX12_last_59 (by decide) ?_
          exact j_vl (tX12_last_63 C (FX12_last_36  q) (PX12_last_36  q) (ih) x1 x2 x4 x4 h hP hR) ⟨rfl, rfl, rfl, rfl, trivial⟩
def FX12_last (a0 : Int32) (a1 : Int32) (h : ph_H) : Int32 × ph_H := if (h 0 36) = 0 then (((-2), (hs h 0 0 0))) else (if (FX12_isIn a1.toInt64 0 ((h 0 38).toInt64)) = 0 then (((-1), (hs h 0 0 0))) else (FX12_last_36 2000 a0 a1 0 1 (hs h 0 0 0)))
def PX12_last (a0 : Int32) (a1 : Int32) (h : ph_H) : Prop := ((h 0 36) = 0 → (True)) ∧ (¬ (h 0 36) = 0 → ((PX12_isIn a1.toInt64 0 ((h 0 38).toInt64)) ∧ (((FX12_isIn a1.toInt64 0 ((h 0 38).toInt64)) = 0 → (True)) ∧ (¬ (FX12_isIn a1.toInt64 0 ((h 0 38).toInt64)) = 0 → (PX12_last_36 2000 a0 a1 0 1 (hs h 0 0 0))))))
set_option maxRecDepth 100000 in
set_option maxHeartbeats 4000000 in
theorem tX12_last {X : fj_X} {Y : fj_Y} {l0 : Launch} {ad : Nat → Nat} (C : FC X Y l0 cX12_last 5 RX12 ({ frames := 1, cells := 0, slots := 0, locals := 25 } : Room) 0 0 (some .int)) (a0 : Int32) (a1 : Int32) (h : ph_H) (hP : PX12_last a0 a1 h) (hR : RETi X Y ad 50 SM cX12_last (FX12_last a0 a1 h)) : FJ X Y ad 50 SM h 0 [(0, .ref (ad 0)), (1, .int a0), (2, .int a1)] [] := by
  unfold PX12_last at hP
  unfold FX12_last at hR
  refine j_aload_n C dX12_last_0 rfl rfl ?_
  refine j_iconst (v := 0) C dX12_last_1 (by decide) ?_
  refine pM_164 C dX12_last_2 ?_
  refine j_aload_n C dX12_last_5 rfl rfl ?_
  refine gM_294 (v := (h 0 36)) C dX12_last_6 (hz_i (by decide)) ?_
  refine j_if_ne (tgt := 15) C dX12_last_9 (by decide) (fun c0 => ?_) (fun c0 => ?_)
  · have hP := hP.2 c0
    rw [if_neg c0] at hR
    refine j_iload_n C dX12_last_15 rfl rfl ?_
    refine j_i2l C dX12_last_16 ?_
    refine j_lconst (v := 0) C dX12_last_17 (by decide) ?_
    refine j_aload_n C dX12_last_18 rfl rfl ?_
    refine gM_304 (v := (h 0 38)) C dX12_last_19 (hz_i (by decide)) ?_
    refine j_i2l C dX12_last_22 ?_
    obtain ⟨p6, hP⟩ := hP
    refine j_callS C (MX12_isIn a1.toInt64 0 ((h 0 38).toInt64) (hs h 0 0 0) p6) dX12_last_23 (CKX12_isIn (by decide)) ⟨rfl, rfl⟩ lk_RX12_169 st_X12_isIn rfl (Nat.le_of_ble_eq_true rfl) ?_
    intro r S' h' hq
    obtain ⟨rfl, hh, rfl, hb8⟩ := hq
    rw [hh]
    refine j_if_ne (tgt := 31) C dX12_last_26 (by decide) (fun c1 => ?_) (fun c1 => ?_)
    · have hP := hP.2 c1
      rw [if_neg c1] at hR
      refine j_iconst (v := 0) C dX12_last_31 (by decide) ?_
      refine j_istore_n C dX12_last_32 rfl (by decide) rfl ?_
      refine j_iconst (v := 1) C dX12_last_33 (by decide) ?_
      refine j_istore C dX12_last_34 (by decide) rfl ?_
      exact j_vl (tX12_last_36 C 2000 a0 a1 0 1 (hs h 0 0 0) hP hR) ⟨rfl, rfl, rfl, rfl, rfl, trivial⟩
    · have hP := hP.1 c1
      rw [if_pos c1] at hR
      refine j_iconst (v := (-1)) C dX12_last_29 (by decide) ?_
      exact hR _ _ dX12_last_30
  · have hP := hP.1 c0
    rw [if_pos c0] at hR
    refine j_bipush (v := (-2)) C dX12_last_12 (by decide) ?_
    exact hR _ _ dX12_last_14
theorem MX12_last {l0 : Launch} {Y : fj_Y} {ad : Nat → Nat} (a0 : Int32) (a1 : Int32) (h : ph_H) (hP : PX12_last a0 a1 h) : MI l0 yX12_last cX12_last 5 (some .int) ({ frames := 1, cells := 0, slots := 0, locals := 25 } : Room) Y ad 50 SM h [.ref (ad 0), .int a0, .int a1] (fun r S' h' => S' = SM ∧ h' = (FX12_last a0 a1 h).2 ∧ r = (FX12_last a0 a1 h).1) := met_i (by decide) (Nat.le_of_ble_eq_true rfl) (fun _ _ _ _ => rfl) (fun X C K => j_vl (tX12_last C a0 a1 h hP (fun pc lv hd => K _ _ _ ⟨rfl, rfl, rfl⟩ pc lv hd)) ⟨rfl, rfl, rfl, trivial⟩)

-- X12_next
def FX12_next_59 (L35 : Int32 → Int32 → ph_H → Int32 × ph_H) (x1 : Int32) (x3 : Int32) (h : ph_H) : Int32 × ph_H := L35 x1 (x3 + 1) h
def PX12_next_59 (LP35 : Int32 → Int32 → ph_H → Prop) (x1 : Int32) (x3 : Int32) (h : ph_H) : Prop := LP35 x1 (x3 + 1) h
set_option maxRecDepth 100000 in
set_option maxHeartbeats 4000000 in
theorem tX12_next_59 {X : fj_X} {Y : fj_Y} {l0 : Launch} {ad : Nat → Nat} (C : FC X Y l0 cX12_next 4 RX12 ({ frames := 1, cells := 0, slots := 0, locals := 25 } : Room) 0 0 (some .int)) (L35 : Int32 → Int32 → ph_H → Int32 × ph_H) (LP35 : Int32 → Int32 → ph_H → Prop) (hL35 : ∀ (x1 : Int32) (x3 : Int32) (h : ph_H), LP35 x1 x3 h → RETi X Y ad 50 SM cX12_next (L35 x1 x3 h) → FJ X Y ad 50 SM h 35 [(0, .ref (ad 0)), (1, .int x1), (3, .int x3)] []) (x1 : Int32) (x3 : Int32) (h : ph_H) (hP : PX12_next_59 LP35 x1 x3 h) (hR : RETi X Y ad 50 SM cX12_next (FX12_next_59 L35 x1 x3 h)) : FJ X Y ad 50 SM h 59 [(0, .ref (ad 0)), (1, .int x1), (3, .int x3)] [] := by
  unfold PX12_next_59 at hP
  unfold FX12_next_59 at hR
  refine j_iinc (v := (x3 + 1)) C dX12_next_59 rfl rfl (by decide) rfl ?_
  refine j_goto (tgt := 35) C dX12_next_62 (by decide) ?_
  exact j_vl (hL35 x1 (x3 + 1) h hP hR) ⟨rfl, rfl, rfl, trivial⟩
def FX12_next_35  : Nat → Int32 → Int32 → ph_H → Int32 × ph_H
  | 0, _, _, h => (0, h)
  | q + 1, x1, x3, h => if (h 0 38) < x3 then ((0, h)) else (if (h 32 (x3.toNatClampNeg)) = x1 then (if x1 < 0 then (FX12_next_59 (FX12_next_35  q) x1 x3 h) else ((x3, h))) else (FX12_next_59 (FX12_next_35  q) x1 x3 h))
def PX12_next_35  : Nat → Int32 → Int32 → ph_H → Prop
  | 0, _, _, _ => False
  | q + 1, x1, x3, h => ((h 0 38) < x3 → (True)) ∧ (¬ (h 0 38) < x3 → (vp_in x3 301 ∧ (((h 32 (x3.toNatClampNeg)) = x1 → ((x1 < 0 → (PX12_next_59 (PX12_next_35  q) x1 x3 h)) ∧ (¬ x1 < 0 → (True)))) ∧ (¬ (h 32 (x3.toNatClampNeg)) = x1 → (PX12_next_59 (PX12_next_35  q) x1 x3 h)))))
set_option maxRecDepth 100000 in
set_option maxHeartbeats 4000000 in
theorem tX12_next_35 {X : fj_X} {Y : fj_Y} {l0 : Launch} {ad : Nat → Nat} (C : FC X Y l0 cX12_next 4 RX12 ({ frames := 1, cells := 0, slots := 0, locals := 25 } : Room) 0 0 (some .int)) : ∀ (q : Nat) (x1 : Int32) (x3 : Int32) (h : ph_H), PX12_next_35  q x1 x3 h → RETi X Y ad 50 SM cX12_next (FX12_next_35  q x1 x3 h) → FJ X Y ad 50 SM h 35 [(0, .ref (ad 0)), (1, .int x1), (3, .int x3)] [] := by
  intro q
  induction q with
  | zero =>
    intro x1 x3 h hP hR
    exact absurd hP id
  | succ q ih =>
    intro x1 x3 h hP hR
    unfold PX12_next_35 at hP
    unfold FX12_next_35 at hR
    refine j_iload_n C dX12_next_35 rfl rfl ?_
    refine j_aload_n C dX12_next_36 rfl rfl ?_
    refine gM_304 (v := (h 0 38)) C dX12_next_37 rfl ?_
    refine j_icmp_gt (tgt := 65) C dX12_next_40 (by decide) (fun c0 => ?_) (fun c0 => ?_)
    · have hP := hP.1 c0
      rw [if_pos c0] at hR
      refine j_iconst (v := 0) C dX12_next_65 (by decide) ?_
      exact hR _ _ dX12_next_66
    · have hP := hP.2 c0
      rw [if_neg c0] at hR
      refine j_aload_n C dX12_next_43 rfl rfl ?_
      refine gM_105 C dX12_next_44 ?_
      refine j_iload_n C dX12_next_47 rfl rfl ?_
      obtain ⟨p3, hP⟩ := hP
      refine j_iald (k := 32) (v := (h 32 (x3.toNatClampNeg))) C dX12_next_48 (by decide) rfl p3 rfl ?_
      refine j_iload_n C dX12_next_49 rfl rfl ?_
      refine j_icmp_ne (tgt := 59) C dX12_next_50 (by decide) (fun c1 => ?_) (fun c1 => ?_)
      · have hP := hP.2 c1
        rw [if_neg c1] at hR
        exact j_vl (tX12_next_59 C (FX12_next_35  q) (PX12_next_35  q) (ih) x1 x3 h hP hR) ⟨rfl, rfl, rfl, trivial⟩
      · have hP := hP.1 c1
        rw [if_pos c1] at hR
        refine j_iload_n C dX12_next_53 rfl rfl ?_
        refine j_if_lt (tgt := 59) C dX12_next_54 (by decide) (fun c2 => ?_) (fun c2 => ?_)
        · have hP := hP.1 c2
          rw [if_pos c2] at hR
          exact j_vl (tX12_next_59 C (FX12_next_35  q) (PX12_next_35  q) (ih) x1 x3 h hP hR) ⟨rfl, rfl, rfl, trivial⟩
        · have hP := hP.2 c2
          rw [if_neg c2] at hR
          refine j_iload_n C dX12_next_57 rfl rfl ?_
          exact hR _ _ dX12_next_58
def FX12_next (a0 : Int32) (a1 : Int32) (h : ph_H) : Int32 × ph_H := if (h 0 36) = 0 then (((-2), (hs h 0 0 0))) else (if (FX12_isIn a1.toInt64 0 ((h 0 38).toInt64)) = 0 then (((-1), (hs h 0 0 0))) else (FX12_next_35 2000 a0 (a1 + 1) (hs h 0 0 0)))
def PX12_next (a0 : Int32) (a1 : Int32) (h : ph_H) : Prop := ((h 0 36) = 0 → (True)) ∧ (¬ (h 0 36) = 0 → ((PX12_isIn a1.toInt64 0 ((h 0 38).toInt64)) ∧ (((FX12_isIn a1.toInt64 0 ((h 0 38).toInt64)) = 0 → (True)) ∧ (¬ (FX12_isIn a1.toInt64 0 ((h 0 38).toInt64)) = 0 → (PX12_next_35 2000 a0 (a1 + 1) (hs h 0 0 0))))))
set_option maxRecDepth 100000 in
set_option maxHeartbeats 4000000 in
theorem tX12_next {X : fj_X} {Y : fj_Y} {l0 : Launch} {ad : Nat → Nat} (C : FC X Y l0 cX12_next 4 RX12 ({ frames := 1, cells := 0, slots := 0, locals := 25 } : Room) 0 0 (some .int)) (a0 : Int32) (a1 : Int32) (h : ph_H) (hP : PX12_next a0 a1 h) (hR : RETi X Y ad 50 SM cX12_next (FX12_next a0 a1 h)) : FJ X Y ad 50 SM h 0 [(0, .ref (ad 0)), (1, .int a0), (2, .int a1)] [] := by
  unfold PX12_next at hP
  unfold FX12_next at hR
  refine j_aload_n C dX12_next_0 rfl rfl ?_
  refine j_iconst (v := 0) C dX12_next_1 (by decide) ?_
  refine pM_164 C dX12_next_2 ?_
  refine j_aload_n C dX12_next_5 rfl rfl ?_
  refine gM_294 (v := (h 0 36)) C dX12_next_6 (hz_i (by decide)) ?_
  refine j_if_ne (tgt := 15) C dX12_next_9 (by decide) (fun c0 => ?_) (fun c0 => ?_)
  · have hP := hP.2 c0
    rw [if_neg c0] at hR
    refine j_iload_n C dX12_next_15 rfl rfl ?_
    refine j_i2l C dX12_next_16 ?_
    refine j_lconst (v := 0) C dX12_next_17 (by decide) ?_
    refine j_aload_n C dX12_next_18 rfl rfl ?_
    refine gM_304 (v := (h 0 38)) C dX12_next_19 (hz_i (by decide)) ?_
    refine j_i2l C dX12_next_22 ?_
    obtain ⟨p6, hP⟩ := hP
    refine j_callS C (MX12_isIn a1.toInt64 0 ((h 0 38).toInt64) (hs h 0 0 0) p6) dX12_next_23 (CKX12_isIn (by decide)) ⟨rfl, rfl⟩ lk_RX12_169 st_X12_isIn rfl (Nat.le_of_ble_eq_true rfl) ?_
    intro r S' h' hq
    obtain ⟨rfl, hh, rfl, hb8⟩ := hq
    rw [hh]
    refine j_if_ne (tgt := 31) C dX12_next_26 (by decide) (fun c1 => ?_) (fun c1 => ?_)
    · have hP := hP.2 c1
      rw [if_neg c1] at hR
      refine j_iload_n C dX12_next_31 rfl rfl ?_
      refine j_iconst (v := 1) C dX12_next_32 (by decide) ?_
      refine j_iadd C dX12_next_33 ?_
      refine j_istore_n C dX12_next_34 rfl (by decide) rfl ?_
      exact j_vl (tX12_next_35 C 2000 a0 (a1 + 1) (hs h 0 0 0) hP hR) ⟨rfl, rfl, rfl, trivial⟩
    · have hP := hP.1 c1
      rw [if_pos c1] at hR
      refine j_iconst (v := (-1)) C dX12_next_29 (by decide) ?_
      exact hR _ _ dX12_next_30
  · have hP := hP.1 c0
    rw [if_pos c0] at hR
    refine j_bipush (v := (-2)) C dX12_next_12 (by decide) ?_
    exact hR _ _ dX12_next_14
theorem MX12_next {l0 : Launch} {Y : fj_Y} {ad : Nat → Nat} (a0 : Int32) (a1 : Int32) (h : ph_H) (hP : PX12_next a0 a1 h) : MI l0 yX12_next cX12_next 4 (some .int) ({ frames := 1, cells := 0, slots := 0, locals := 25 } : Room) Y ad 50 SM h [.ref (ad 0), .int a0, .int a1] (fun r S' h' => S' = SM ∧ h' = (FX12_next a0 a1 h).2 ∧ r = (FX12_next a0 a1 h).1) := met_i (by decide) (Nat.le_of_ble_eq_true rfl) (fun _ _ _ _ => rfl) (fun X C K => j_vl (tX12_next C a0 a1 h hP (fun pc lv hd => K _ _ _ ⟨rfl, rfl, rfl⟩ pc lv hd)) ⟨rfl, rfl, rfl, trivial⟩)
