-- X12_isIn
def FX12_isIn (a0 : Int64) (a1 : Int64) (a2 : Int64) : Int32 := if (lg_cmp a0 a1) < 0 then (0) else (if 0 < (lg_cmp a0 a2) then (0) else (1))
def PX12_isIn (a0 : Int64) (a1 : Int64) (a2 : Int64) : Prop := ((lg_cmp a0 a1) < 0 → (True)) ∧ (¬ (lg_cmp a0 a1) < 0 → ((0 < (lg_cmp a0 a2) → (True)) ∧ (¬ 0 < (lg_cmp a0 a2) → (True))))
set_option maxRecDepth 100000 in
set_option maxHeartbeats 4000000 in
theorem tX12_isIn {X : fj_X} {Y : fj_Y} {l0 : Launch} {ad : Nat → Nat} (C : FC X Y l0 cX12_isIn 6 RX12 ({ frames := 0, cells := 0, slots := 0, locals := 0 } : Room) 0 0 (some .boolean)) (a0 : Int64) (a1 : Int64) (a2 : Int64) (h : ph_H) (hP : PX12_isIn a0 a1 a2) (hR : RETq X Y ad 50 SM h cX12_isIn (FX12_isIn a0 a1 a2)) : FJ X Y ad 50 SM h 0 [(0, .long a0), (2, .long a1), (4, .long a2)] [] := by
  unfold PX12_isIn at hP
  unfold FX12_isIn at hR
  refine j_lload_n C dX12_isIn_0 rfl rfl ?_
  refine j_lload_n C dX12_isIn_1 rfl rfl ?_
  refine j_lcmp C dX12_isIn_2 ?_
  refine j_if_lt (tgt := 17) C dX12_isIn_3 (by decide) (fun c0 => ?_) (fun c0 => ?_)
  · have hP := hP.1 c0
    rw [if_pos c0] at hR
    refine j_iconst (v := 0) C dX12_isIn_17 (by decide) ?_
    exact hR bo_0 _ _ dX12_isIn_18
  · have hP := hP.2 c0
    rw [if_neg c0] at hR
    refine j_lload_n C dX12_isIn_6 rfl rfl ?_
    refine j_lload C dX12_isIn_7 rfl ?_
    refine j_lcmp C dX12_isIn_9 ?_
    refine j_if_gt (tgt := 17) C dX12_isIn_10 (by decide) (fun c1 => ?_) (fun c1 => ?_)
    · have hP := hP.1 c1
      rw [if_pos c1] at hR
      refine j_iconst (v := 0) C dX12_isIn_17 (by decide) ?_
      exact hR bo_0 _ _ dX12_isIn_18
    · have hP := hP.2 c1
      rw [if_neg c1] at hR
      refine j_iconst (v := 1) C dX12_isIn_13 (by decide) ?_
      refine j_goto (tgt := 18) C dX12_isIn_14 (by decide) ?_
      exact hR bo_1 _ _ dX12_isIn_18
theorem MX12_isIn {l0 : Launch} {Y : fj_Y} {ad : Nat → Nat} (a0 : Int64) (a1 : Int64) (a2 : Int64) (h : ph_H) (hP : PX12_isIn a0 a1 a2) : MI l0 yX12_isIn cX12_isIn 6 (some .boolean) ({ frames := 0, cells := 0, slots := 0, locals := 0 } : Room) Y ad 50 SM h [.long a0, .long a1, .long a2] (fun r S' h' => S' = SM ∧ h' = h ∧ r = FX12_isIn a0 a1 a2 ∧ bo r) := met_i (by decide) (Nat.le_of_ble_eq_true rfl) (fun _ _ _ q => bo_n q.2.2.2) (fun X C K => j_vl (tX12_isIn C a0 a1 a2 h hP (fun b pc lv hd => K _ _ _ ⟨rfl, rfl, rfl, b⟩ pc lv hd)) ⟨rfl, rfl, rfl, trivial⟩)

-- X12_modulo
def FX12_modulo (a0 : Int32) (a1 : Int32) : Int32 := (((a0 - a0 / a1 * a1) + a1) - ((a0 - a0 / a1 * a1) + a1) / a1 * a1)
def PX12_modulo (a0 : Int32) (a1 : Int32) : Prop := ¬ a1 = 0 ∧ (¬ a1 = 0 ∧ (True))
set_option maxRecDepth 100000 in
set_option maxHeartbeats 4000000 in
theorem tX12_modulo {X : fj_X} {Y : fj_Y} {l0 : Launch} {ad : Nat → Nat} (C : FC X Y l0 cX12_modulo 2 RX12 ({ frames := 0, cells := 0, slots := 0, locals := 0 } : Room) 0 0 (some .int)) (a0 : Int32) (a1 : Int32) (h : ph_H) (hP : PX12_modulo a0 a1) (hR : RETp X Y ad 50 SM h cX12_modulo (FX12_modulo a0 a1)) : FJ X Y ad 50 SM h 0 [(0, .int a0), (1, .int a1)] [] := by
  unfold PX12_modulo at hP
  unfold FX12_modulo at hR
  refine j_iload_n C dX12_modulo_0 rfl rfl ?_
  refine j_iload_n C dX12_modulo_1 rfl rfl ?_
  obtain ⟨p2, hP⟩ := hP
  refine j_irem C dX12_modulo_2 p2 ?_
  refine j_iload_n C dX12_modulo_3 rfl rfl ?_
  refine j_iadd C dX12_modulo_4 ?_
  refine j_iload_n C dX12_modulo_5 rfl rfl ?_
  obtain ⟨p7, hP⟩ := hP
  refine j_irem C dX12_modulo_6 p7 ?_
  exact hR _ _ dX12_modulo_7
theorem MX12_modulo {l0 : Launch} {Y : fj_Y} {ad : Nat → Nat} (a0 : Int32) (a1 : Int32) (h : ph_H) (hP : PX12_modulo a0 a1) : MI l0 yX12_modulo cX12_modulo 2 (some .int) ({ frames := 0, cells := 0, slots := 0, locals := 0 } : Room) Y ad 50 SM h [.int a0, .int a1] (fun r S' h' => S' = SM ∧ h' = h ∧ r = FX12_modulo a0 a1) := met_i (by decide) (Nat.le_of_ble_eq_true rfl) (fun _ _ _ _ => rfl) (fun X C K => j_vl (tX12_modulo C a0 a1 h hP (fun pc lv hd => K _ _ _ ⟨rfl, rfl, rfl⟩ pc lv hd)) ⟨rfl, rfl, trivial⟩)

-- X12_code
def FX12_code (a0 : Int32) (a1 : Int32) (a2 : Int32) (a3 : Int32) (a4 : Int32) (h : ph_H) : Int32 × ph_H := if (FX12_isIn a0.toInt64 0 3) = 0 then (((-1), (hs h 0 0 0))) else (if (FX12_isIn a1.toInt64 0 19) = 0 then (((-1), (hs h 0 0 0))) else (if (h 1 (a0.toNatClampNeg)) = 24 then (((-2), (hs h 0 0 0))) else (((((hs (hs (hs (hs (hs (hs h 0 0 0) 2 ((24 * a0) + (h 1 (a0.toNatClampNeg))).toNatClampNeg a1) 3 ((24 * a0) + (h 1 (a0.toNatClampNeg))).toNatClampNeg a2) 4 ((24 * a0) + (h 1 (a0.toNatClampNeg))).toNatClampNeg a3) 5 ((24 * a0) + (h 1 (a0.toNatClampNeg))).toNatClampNeg a4) 1 a0.toNatClampNeg ((h 1 (a0.toNatClampNeg)) + 1)) 1 (a0.toNatClampNeg)) - 1), (hs (hs (hs (hs (hs (hs h 0 0 0) 2 ((24 * a0) + (h 1 (a0.toNatClampNeg))).toNatClampNeg a1) 3 ((24 * a0) + (h 1 (a0.toNatClampNeg))).toNatClampNeg a2) 4 ((24 * a0) + (h 1 (a0.toNatClampNeg))).toNatClampNeg a3) 5 ((24 * a0) + (h 1 (a0.toNatClampNeg))).toNatClampNeg a4) 1 a0.toNatClampNeg ((h 1 (a0.toNatClampNeg)) + 1))))))
def PX12_code (a0 : Int32) (a1 : Int32) (a2 : Int32) (a3 : Int32) (a4 : Int32) (h : ph_H) : Prop := (PX12_isIn a0.toInt64 0 3) ∧ (((FX12_isIn a0.toInt64 0 3) = 0 → (True)) ∧ (¬ (FX12_isIn a0.toInt64 0 3) = 0 → ((PX12_isIn a1.toInt64 0 19) ∧ (((FX12_isIn a1.toInt64 0 19) = 0 → (True)) ∧ (¬ (FX12_isIn a1.toInt64 0 19) = 0 → (vp_in a0 4 ∧ (((h 1 (a0.toNatClampNeg)) = 24 → (True)) ∧ (¬ (h 1 (a0.toNatClampNeg)) = 24 → (vp_in a0 4 ∧ (vp_in ((24 * a0) + (h 1 (a0.toNatClampNeg))) 96 ∧ (vp_in ((24 * a0) + (h 1 (a0.toNatClampNeg))) 96 ∧ (vp_in ((24 * a0) + (h 1 (a0.toNatClampNeg))) 96 ∧ (vp_in ((24 * a0) + (h 1 (a0.toNatClampNeg))) 96 ∧ (vp_in a0 4 ∧ (vp_in a0 4 ∧ (vp_in a0 4 ∧ (True)))))))))))))))))
set_option maxRecDepth 100000 in
set_option maxHeartbeats 4000000 in
theorem tX12_code {X : fj_X} {Y : fj_Y} {l0 : Launch} {ad : Nat → Nat} (C : FC X Y l0 cX12_code 7 RX12 ({ frames := 1, cells := 0, slots := 0, locals := 25 } : Room) 0 0 (some .int)) (a0 : Int32) (a1 : Int32) (a2 : Int32) (a3 : Int32) (a4 : Int32) (h : ph_H) (hP : PX12_code a0 a1 a2 a3 a4 h) (hR : RETi X Y ad 50 SM cX12_code (FX12_code a0 a1 a2 a3 a4 h)) : FJ X Y ad 50 SM h 0 [(0, .ref (ad 0)), (1, .int a0), (2, .int a1), (3, .int a2), (4, .int a3), (5, .int a4)] [] := by
  unfold PX12_code at hP
  unfold FX12_code at hR
  refine j_aload_n C dX12_code_0 rfl rfl ?_
  refine j_iconst (v := 0) C dX12_code_1 (by decide) ?_
  refine pM_164 C dX12_code_2 ?_
  refine j_iload_n C dX12_code_5 rfl rfl ?_
  refine j_i2l C dX12_code_6 ?_
  refine j_lconst (v := 0) C dX12_code_7 (by decide) ?_
  refine j_ldc2 (v := 3) C dX12_code_8 kl_RX12_167 ?_
  obtain ⟨p7, hP⟩ := hP
  refine j_callS C (MX12_isIn a0.toInt64 0 3 (hs h 0 0 0) p7) dX12_code_11 (CKX12_isIn (by decide)) ⟨rfl, rfl⟩ lk_RX12_169 st_X12_isIn rfl (Nat.le_of_ble_eq_true rfl) ?_
  intro r S' h' hq
  obtain ⟨rfl, hh, rfl, hb9⟩ := hq
  rw [hh]
  refine j_if_eq (tgt := 29) C dX12_code_14 (by decide) (fun c0 => ?_) (fun c0 => ?_)
  · have hP := hP.1 c0
    rw [if_pos c0] at hR
    refine j_iconst (v := (-1)) C dX12_code_29 (by decide) ?_
    exact hR _ _ dX12_code_30
  · have hP := hP.2 c0
    rw [if_neg c0] at hR
    refine j_iload_n C dX12_code_17 rfl rfl ?_
    refine j_i2l C dX12_code_18 ?_
    refine j_lconst (v := 0) C dX12_code_19 (by decide) ?_
    refine j_ldc2 (v := 19) C dX12_code_20 kl_RX12_173 ?_
    obtain ⟨p4, hP⟩ := hP
    refine j_callS C (MX12_isIn a1.toInt64 0 19 (hs h 0 0 0) p4) dX12_code_23 (CKX12_isIn (by decide)) ⟨rfl, rfl⟩ lk_RX12_169 st_X12_isIn rfl (Nat.le_of_ble_eq_true rfl) ?_
    intro r S' h' hq
    obtain ⟨rfl, hh, rfl, hb6⟩ := hq
    rw [hh]
    refine j_if_ne (tgt := 31) C dX12_code_26 (by decide) (fun c1 => ?_) (fun c1 => ?_)
    · have hP := hP.2 c1
      rw [if_neg c1] at hR
      refine j_aload_n C dX12_code_31 rfl rfl ?_
      refine gM_7 C dX12_code_32 ?_
      refine j_iload_n C dX12_code_35 rfl rfl ?_
      obtain ⟨p3, hP⟩ := hP
      refine j_iald (k := 1) (v := (h 1 (a0.toNatClampNeg))) C dX12_code_36 (by decide) rfl p3 (hz_k (by decide)) ?_
      refine j_bipush (v := 24) C dX12_code_37 (by decide) ?_
      refine j_icmp_ne (tgt := 45) C dX12_code_39 (by decide) (fun c2 => ?_) (fun c2 => ?_)
      · have hP := hP.2 c2
        rw [if_neg c2] at hR
        refine j_bipush (v := 24) C dX12_code_45 (by decide) ?_
        refine j_iload_n C dX12_code_47 rfl rfl ?_
        refine j_imul C dX12_code_48 ?_
        refine j_aload_n C dX12_code_49 rfl rfl ?_
        refine gM_7 C dX12_code_50 ?_
        refine j_iload_n C dX12_code_53 rfl rfl ?_
        obtain ⟨p6, hP⟩ := hP
        refine j_iald (k := 1) (v := (h 1 (a0.toNatClampNeg))) C dX12_code_54 (by decide) rfl p6 (hz_k (by decide)) ?_
        refine j_iadd C dX12_code_55 ?_
        refine j_istore C dX12_code_56 (by decide) rfl ?_
        refine j_aload_n C dX12_code_58 rfl rfl ?_
        refine gM_13 C dX12_code_59 ?_
        refine j_iload C dX12_code_62 rfl ?_
        refine j_iload_n C dX12_code_64 rfl rfl ?_
        obtain ⟨p14, hP⟩ := hP
        refine j_iast (k := 2) C dX12_code_65 (by decide) rfl p14 ?_
        refine j_aload_n C dX12_code_66 rfl rfl ?_
        refine gM_16 C dX12_code_67 ?_
        refine j_iload C dX12_code_70 rfl ?_
        refine j_iload_n C dX12_code_72 rfl rfl ?_
        obtain ⟨p20, hP⟩ := hP
        refine j_iast (k := 3) C dX12_code_73 (by decide) rfl p20 ?_
        refine j_aload_n C dX12_code_74 rfl rfl ?_
        refine gM_19 C dX12_code_75 ?_
        refine j_iload C dX12_code_78 rfl ?_
        refine j_iload C dX12_code_80 rfl ?_
        obtain ⟨p26, hP⟩ := hP
        refine j_iast (k := 4) C dX12_code_82 (by decide) rfl p26 ?_
        refine j_aload_n C dX12_code_83 rfl rfl ?_
        refine gM_22 C dX12_code_84 ?_
        refine j_iload C dX12_code_87 rfl ?_
        refine j_iload C dX12_code_89 rfl ?_
        obtain ⟨p32, hP⟩ := hP
        refine j_iast (k := 5) C dX12_code_91 (by decide) rfl p32 ?_
        refine j_aload_n C dX12_code_92 rfl rfl ?_
        refine gM_7 C dX12_code_93 ?_
        refine j_iload_n C dX12_code_96 rfl rfl ?_
        refine j_dup2 C dX12_code_97 rfl rfl ?_
        obtain ⟨p38, hP⟩ := hP
        refine j_iald (k := 1) (v := (h 1 (a0.toNatClampNeg))) C dX12_code_98 (by decide) rfl p38 ((hz_k (by decide)).trans ((hz_k (by decide)).trans ((hz_k (by decide)).trans ((hz_k (by decide)).trans (hz_k (by decide)))))) ?_
        refine j_iconst (v := 1) C dX12_code_99 (by decide) ?_
        refine j_iadd C dX12_code_100 ?_
        obtain ⟨p42, hP⟩ := hP
        refine j_iast (k := 1) C dX12_code_101 (by decide) rfl p42 ?_
        refine j_aload_n C dX12_code_102 rfl rfl ?_
        refine gM_7 C dX12_code_103 ?_
        refine j_iload_n C dX12_code_106 rfl rfl ?_
        obtain ⟨p47, hP⟩ := hP
        refine j_iald (k := 1) (v := ((hs (hs (hs (hs (hs (hs h 0 0 0) 2 ((24 * a0) + (h 1 (a0.toNatClampNeg))).toNatClampNeg a1) 3 ((24 * a0) + (h 1 (a0.toNatClampNeg))).toNatClampNeg a2) 4 ((24 * a0) + (h 1 (a0.toNatClampNeg))).toNatClampNeg a3) 5 ((24 * a0) + (h 1 (a0.toNatClampNeg))).toNatClampNeg a4) 1 a0.toNatClampNeg ((h 1 (a0.toNatClampNeg)) + 1)) 1 (a0.toNatClampNeg))) C dX12_code_107 (by decide) rfl p47 rfl ?_
        refine j_iconst (v := 1) C dX12_code_108 (by decide) ?_
        refine j_isub C dX12_code_109 ?_
        exact hR _ _ dX12_code_110
      · have hP := hP.1 c2
        rw [if_pos c2] at hR
        refine j_bipush (v := (-2)) C dX12_code_42 (by decide) ?_
        exact hR _ _ dX12_code_44
    · have hP := hP.1 c1
      rw [if_pos c1] at hR
      refine j_iconst (v := (-1)) C dX12_code_29 (by decide) ?_
      exact hR _ _ dX12_code_30
theorem MX12_code {l0 : Launch} {Y : fj_Y} {ad : Nat → Nat} (a0 : Int32) (a1 : Int32) (a2 : Int32) (a3 : Int32) (a4 : Int32) (h : ph_H) (hP : PX12_code a0 a1 a2 a3 a4 h) : MI l0 yX12_code cX12_code 7 (some .int) ({ frames := 1, cells := 0, slots := 0, locals := 25 } : Room) Y ad 50 SM h [.ref (ad 0), .int a0, .int a1, .int a2, .int a3, .int a4] (fun r S' h' => S' = SM ∧ h' = (FX12_code a0 a1 a2 a3 a4 h).2 ∧ r = (FX12_code a0 a1 a2 a3 a4 h).1) := met_i (by decide) (Nat.le_of_ble_eq_true rfl) (fun _ _ _ _ => rfl) (fun X C K => j_vl (tX12_code C a0 a1 a2 a3 a4 h hP (fun pc lv hd => K _ _ _ ⟨rfl, rfl, rfl⟩ pc lv hd)) ⟨rfl, rfl, rfl, rfl, rfl, rfl, trivial⟩)

-- X12_clear
def FX12_clear (a0 : Int32) (h : ph_H) : Int32 × ph_H := if (FX12_isIn a0.toInt64 0 3) = 0 then (((-1), (hs h 0 0 0))) else (((h 1 (a0.toNatClampNeg)), (hs (hs h 0 0 0) 1 a0.toNatClampNeg 0)))
def PX12_clear (a0 : Int32) (h : ph_H) : Prop := (PX12_isIn a0.toInt64 0 3) ∧ (((FX12_isIn a0.toInt64 0 3) = 0 → (True)) ∧ (¬ (FX12_isIn a0.toInt64 0 3) = 0 → (vp_in a0 4 ∧ (vp_in a0 4 ∧ (True)))))
set_option maxRecDepth 100000 in
set_option maxHeartbeats 4000000 in
theorem tX12_clear {X : fj_X} {Y : fj_Y} {l0 : Launch} {ad : Nat → Nat} (C : FC X Y l0 cX12_clear 3 RX12 ({ frames := 1, cells := 0, slots := 0, locals := 25 } : Room) 0 0 (some .int)) (a0 : Int32) (h : ph_H) (hP : PX12_clear a0 h) (hR : RETi X Y ad 50 SM cX12_clear (FX12_clear a0 h)) : FJ X Y ad 50 SM h 0 [(0, .ref (ad 0)), (1, .int a0)] [] := by
  unfold PX12_clear at hP
  unfold FX12_clear at hR
  refine j_aload_n C dX12_clear_0 rfl rfl ?_
  refine j_iconst (v := 0) C dX12_clear_1 (by decide) ?_
  refine pM_164 C dX12_clear_2 ?_
  refine j_iload_n C dX12_clear_5 rfl rfl ?_
  refine j_i2l C dX12_clear_6 ?_
  refine j_lconst (v := 0) C dX12_clear_7 (by decide) ?_
  refine j_ldc2 (v := 3) C dX12_clear_8 kl_RX12_167 ?_
  obtain ⟨p7, hP⟩ := hP
  refine j_callS C (MX12_isIn a0.toInt64 0 3 (hs h 0 0 0) p7) dX12_clear_11 (CKX12_isIn (by decide)) ⟨rfl, rfl⟩ lk_RX12_169 st_X12_isIn rfl (Nat.le_of_ble_eq_true rfl) ?_
  intro r S' h' hq
  obtain ⟨rfl, hh, rfl, hb9⟩ := hq
  rw [hh]
  refine j_if_ne (tgt := 19) C dX12_clear_14 (by decide) (fun c0 => ?_) (fun c0 => ?_)
  · have hP := hP.2 c0
    rw [if_neg c0] at hR
    refine j_aload_n C dX12_clear_19 rfl rfl ?_
    refine gM_7 C dX12_clear_20 ?_
    refine j_iload_n C dX12_clear_23 rfl rfl ?_
    obtain ⟨p3, hP⟩ := hP
    refine j_iald (k := 1) (v := (h 1 (a0.toNatClampNeg))) C dX12_clear_24 (by decide) rfl p3 (hz_k (by decide)) ?_
    refine j_istore_n C dX12_clear_25 rfl (by decide) rfl ?_
    refine j_aload_n C dX12_clear_26 rfl rfl ?_
    refine gM_7 C dX12_clear_27 ?_
    refine j_iload_n C dX12_clear_30 rfl rfl ?_
    refine j_iconst (v := 0) C dX12_clear_31 (by decide) ?_
    obtain ⟨p10, hP⟩ := hP
    refine j_iast (k := 1) C dX12_clear_32 (by decide) rfl p10 ?_
    refine j_iload_n C dX12_clear_33 rfl rfl ?_
    exact hR _ _ dX12_clear_34
  · have hP := hP.1 c0
    rw [if_pos c0] at hR
    refine j_iconst (v := (-1)) C dX12_clear_17 (by decide) ?_
    exact hR _ _ dX12_clear_18
theorem MX12_clear {l0 : Launch} {Y : fj_Y} {ad : Nat → Nat} (a0 : Int32) (h : ph_H) (hP : PX12_clear a0 h) : MI l0 yX12_clear cX12_clear 3 (some .int) ({ frames := 1, cells := 0, slots := 0, locals := 25 } : Room) Y ad 50 SM h [.ref (ad 0), .int a0] (fun r S' h' => S' = SM ∧ h' = (FX12_clear a0 h).2 ∧ r = (FX12_clear a0 h).1) := met_i (by decide) (Nat.le_of_ble_eq_true rfl) (fun _ _ _ _ => rfl) (fun X C K => j_vl (tX12_clear C a0 h hP (fun pc lv hd => K _ _ _ ⟨rfl, rfl, rfl⟩ pc lv hd)) ⟨rfl, rfl, trivial⟩)

-- X12_cell
def FX12_cell (a0 : Int32) (a1 : Int32) (h : ph_H) : Int32 × ph_H := if (FX12_isIn a0.toInt64 0 11) = 0 then (((-1), (hs h 0 0 0))) else ((0, (hs (hs h 0 0 0) 6 a0.toNatClampNeg a1)))
def PX12_cell (a0 : Int32) (a1 : Int32) (h : ph_H) : Prop := (PX12_isIn a0.toInt64 0 11) ∧ (((FX12_isIn a0.toInt64 0 11) = 0 → (True)) ∧ (¬ (FX12_isIn a0.toInt64 0 11) = 0 → (vp_in a0 12 ∧ (True))))
set_option maxRecDepth 100000 in
set_option maxHeartbeats 4000000 in
theorem tX12_cell {X : fj_X} {Y : fj_Y} {l0 : Launch} {ad : Nat → Nat} (C : FC X Y l0 cX12_cell 3 RX12 ({ frames := 1, cells := 0, slots := 0, locals := 25 } : Room) 0 0 (some .int)) (a0 : Int32) (a1 : Int32) (h : ph_H) (hP : PX12_cell a0 a1 h) (hR : RETi X Y ad 50 SM cX12_cell (FX12_cell a0 a1 h)) : FJ X Y ad 50 SM h 0 [(0, .ref (ad 0)), (1, .int a0), (2, .int a1)] [] := by
  unfold PX12_cell at hP
  unfold FX12_cell at hR
  refine j_aload_n C dX12_cell_0 rfl rfl ?_
  refine j_iconst (v := 0) C dX12_cell_1 (by decide) ?_
  refine pM_164 C dX12_cell_2 ?_
  refine j_iload_n C dX12_cell_5 rfl rfl ?_
  refine j_i2l C dX12_cell_6 ?_
  refine j_lconst (v := 0) C dX12_cell_7 (by decide) ?_
  refine j_ldc2 (v := 11) C dX12_cell_8 kl_RX12_175 ?_
  obtain ⟨p7, hP⟩ := hP
  refine j_callS C (MX12_isIn a0.toInt64 0 11 (hs h 0 0 0) p7) dX12_cell_11 (CKX12_isIn (by decide)) ⟨rfl, rfl⟩ lk_RX12_169 st_X12_isIn rfl (Nat.le_of_ble_eq_true rfl) ?_
  intro r S' h' hq
  obtain ⟨rfl, hh, rfl, hb9⟩ := hq
  rw [hh]
  refine j_if_ne (tgt := 19) C dX12_cell_14 (by decide) (fun c0 => ?_) (fun c0 => ?_)
  · have hP := hP.2 c0
    rw [if_neg c0] at hR
    refine j_aload_n C dX12_cell_19 rfl rfl ?_
    refine gM_25 C dX12_cell_20 ?_
    refine j_iload_n C dX12_cell_23 rfl rfl ?_
    refine j_iload_n C dX12_cell_24 rfl rfl ?_
    obtain ⟨p4, hP⟩ := hP
    refine j_iast (k := 6) C dX12_cell_25 (by decide) rfl p4 ?_
    refine j_iconst (v := 0) C dX12_cell_26 (by decide) ?_
    exact hR _ _ dX12_cell_27
  · have hP := hP.1 c0
    rw [if_pos c0] at hR
    refine j_iconst (v := (-1)) C dX12_cell_17 (by decide) ?_
    exact hR _ _ dX12_cell_18
theorem MX12_cell {l0 : Launch} {Y : fj_Y} {ad : Nat → Nat} (a0 : Int32) (a1 : Int32) (h : ph_H) (hP : PX12_cell a0 a1 h) : MI l0 yX12_cell cX12_cell 3 (some .int) ({ frames := 1, cells := 0, slots := 0, locals := 25 } : Room) Y ad 50 SM h [.ref (ad 0), .int a0, .int a1] (fun r S' h' => S' = SM ∧ h' = (FX12_cell a0 a1 h).2 ∧ r = (FX12_cell a0 a1 h).1) := met_i (by decide) (Nat.le_of_ble_eq_true rfl) (fun _ _ _ _ => rfl) (fun X C K => j_vl (tX12_cell C a0 a1 h hP (fun pc lv hd => K _ _ _ ⟨rfl, rfl, rfl⟩ pc lv hd)) ⟨rfl, rfl, rfl, trivial⟩)

-- X12_input
def FX12_input (a0 : Int32) (h : ph_H) : Int32 × ph_H := if (h 0 7) = 30 then (((-2), (hs h 0 0 0))) else ((((h 0 7) + 1), (hs (hs (hs h 0 0 0) 7 (h 0 7).toNatClampNeg a0) 0 7 ((h 0 7) + 1))))
def PX12_input (a0 : Int32) (h : ph_H) : Prop := ((h 0 7) = 30 → (True)) ∧ (¬ (h 0 7) = 30 → (vp_in (h 0 7) 30 ∧ (True)))
set_option maxRecDepth 100000 in
set_option maxHeartbeats 4000000 in
theorem tX12_input {X : fj_X} {Y : fj_Y} {l0 : Launch} {ad : Nat → Nat} (C : FC X Y l0 cX12_input 2 RX12 ({ frames := 0, cells := 0, slots := 0, locals := 0 } : Room) 0 0 (some .int)) (a0 : Int32) (h : ph_H) (hP : PX12_input a0 h) (hR : RETi X Y ad 50 SM cX12_input (FX12_input a0 h)) : FJ X Y ad 50 SM h 0 [(0, .ref (ad 0)), (1, .int a0)] [] := by
  unfold PX12_input at hP
  unfold FX12_input at hR
  refine j_aload_n C dX12_input_0 rfl rfl ?_
  refine j_iconst (v := 0) C dX12_input_1 (by decide) ?_
  refine pM_164 C dX12_input_2 ?_
  refine j_aload_n C dX12_input_5 rfl rfl ?_
  refine gM_177 (v := (h 0 7)) C dX12_input_6 (hz_i (by decide)) ?_
  refine j_bipush (v := 30) C dX12_input_9 (by decide) ?_
  refine j_icmp_ne (tgt := 17) C dX12_input_11 (by decide) (fun c0 => ?_) (fun c0 => ?_)
  · have hP := hP.2 c0
    rw [if_neg c0] at hR
    refine j_aload_n C dX12_input_17 rfl rfl ?_
    refine gM_28 C dX12_input_18 ?_
    refine j_aload_n C dX12_input_21 rfl rfl ?_
    refine gM_177 (v := (h 0 7)) C dX12_input_22 (hz_i (by decide)) ?_
    refine j_iload_n C dX12_input_25 rfl rfl ?_
    obtain ⟨p5, hP⟩ := hP
    refine j_iast (k := 7) C dX12_input_26 (by decide) rfl p5 ?_
    refine j_aload_n C dX12_input_27 rfl rfl ?_
    refine j_dup C dX12_input_28 rfl ?_
    refine gM_177 (v := (h 0 7)) C dX12_input_29 ((hz_k (by decide)).trans (hz_i (by decide))) ?_
    refine j_iconst (v := 1) C dX12_input_32 (by decide) ?_
    refine j_iadd C dX12_input_33 ?_
    refine pM_177 C dX12_input_34 ?_
    refine j_aload_n C dX12_input_37 rfl rfl ?_
    refine gM_177 (v := ((h 0 7) + 1)) C dX12_input_38 (hz_e) ?_
    exact hR _ _ dX12_input_41
  · have hP := hP.1 c0
    rw [if_pos c0] at hR
    refine j_bipush (v := (-2)) C dX12_input_14 (by decide) ?_
    exact hR _ _ dX12_input_16
theorem MX12_input {l0 : Launch} {Y : fj_Y} {ad : Nat → Nat} (a0 : Int32) (h : ph_H) (hP : PX12_input a0 h) : MI l0 yX12_input cX12_input 2 (some .int) ({ frames := 0, cells := 0, slots := 0, locals := 0 } : Room) Y ad 50 SM h [.ref (ad 0), .int a0] (fun r S' h' => S' = SM ∧ h' = (FX12_input a0 h).2 ∧ r = (FX12_input a0 h).1) := met_i (by decide) (Nat.le_of_ble_eq_true rfl) (fun _ _ _ _ => rfl) (fun X C K => j_vl (tX12_input C a0 h hP (fun pc lv hd => K _ _ _ ⟨rfl, rfl, rfl⟩ pc lv hd)) ⟨rfl, rfl, trivial⟩)

-- X12_turn
def FX12_turn (a0 : Int32) (a1 : Int32) (h : ph_H) : Int32 × ph_H := if (FX12_isIn a0.toInt64 0 3) = 0 then (((-1), (hs h 0 0 0))) else (if (FX12_isIn a1.toInt64 1 100) = 0 then (((-1), (hs h 0 0 0))) else (if (h 0 9) = 40 then (((-2), (hs h 0 0 0))) else ((((h 0 9) + 1), (hs (hs (hs (hs h 0 0 0) 8 (h 0 9).toNatClampNeg a0) 9 (h 0 9).toNatClampNeg a1) 0 9 ((h 0 9) + 1))))))
def PX12_turn (a0 : Int32) (a1 : Int32) (h : ph_H) : Prop := (PX12_isIn a0.toInt64 0 3) ∧ (((FX12_isIn a0.toInt64 0 3) = 0 → (True)) ∧ (¬ (FX12_isIn a0.toInt64 0 3) = 0 → ((PX12_isIn a1.toInt64 1 100) ∧ (((FX12_isIn a1.toInt64 1 100) = 0 → (True)) ∧ (¬ (FX12_isIn a1.toInt64 1 100) = 0 → (((h 0 9) = 40 → (True)) ∧ (¬ (h 0 9) = 40 → (vp_in (h 0 9) 40 ∧ (vp_in (h 0 9) 40 ∧ (True))))))))))
set_option maxRecDepth 100000 in
set_option maxHeartbeats 4000000 in
theorem tX12_turn {X : fj_X} {Y : fj_Y} {l0 : Launch} {ad : Nat → Nat} (C : FC X Y l0 cX12_turn 3 RX12 ({ frames := 1, cells := 0, slots := 0, locals := 25 } : Room) 0 0 (some .int)) (a0 : Int32) (a1 : Int32) (h : ph_H) (hP : PX12_turn a0 a1 h) (hR : RETi X Y ad 50 SM cX12_turn (FX12_turn a0 a1 h)) : FJ X Y ad 50 SM h 0 [(0, .ref (ad 0)), (1, .int a0), (2, .int a1)] [] := by
  unfold PX12_turn at hP
  unfold FX12_turn at hR
  refine j_aload_n C dX12_turn_0 rfl rfl ?_
  refine j_iconst (v := 0) C dX12_turn_1 (by decide) ?_
  refine pM_164 C dX12_turn_2 ?_
  refine j_iload_n C dX12_turn_5 rfl rfl ?_
  refine j_i2l C dX12_turn_6 ?_
  refine j_lconst (v := 0) C dX12_turn_7 (by decide) ?_
  refine j_ldc2 (v := 3) C dX12_turn_8 kl_RX12_167 ?_
  obtain ⟨p7, hP⟩ := hP
  refine j_callS C (MX12_isIn a0.toInt64 0 3 (hs h 0 0 0) p7) dX12_turn_11 (CKX12_isIn (by decide)) ⟨rfl, rfl⟩ lk_RX12_169 st_X12_isIn rfl (Nat.le_of_ble_eq_true rfl) ?_
  intro r S' h' hq
  obtain ⟨rfl, hh, rfl, hb9⟩ := hq
  rw [hh]
  refine j_if_eq (tgt := 29) C dX12_turn_14 (by decide) (fun c0 => ?_) (fun c0 => ?_)
  · have hP := hP.1 c0
    rw [if_pos c0] at hR
    refine j_iconst (v := (-1)) C dX12_turn_29 (by decide) ?_
    exact hR _ _ dX12_turn_30
  · have hP := hP.2 c0
    rw [if_neg c0] at hR
    refine j_iload_n C dX12_turn_17 rfl rfl ?_
    refine j_i2l C dX12_turn_18 ?_
    refine j_lconst (v := 1) C dX12_turn_19 (by decide) ?_
    refine j_ldc2 (v := 100) C dX12_turn_20 kl_RX12_180 ?_
    obtain ⟨p4, hP⟩ := hP
    refine j_callS C (MX12_isIn a1.toInt64 1 100 (hs h 0 0 0) p4) dX12_turn_23 (CKX12_isIn (by decide)) ⟨rfl, rfl⟩ lk_RX12_169 st_X12_isIn rfl (Nat.le_of_ble_eq_true rfl) ?_
    intro r S' h' hq
    obtain ⟨rfl, hh, rfl, hb6⟩ := hq
    rw [hh]
    refine j_if_ne (tgt := 31) C dX12_turn_26 (by decide) (fun c1 => ?_) (fun c1 => ?_)
    · have hP := hP.2 c1
      rw [if_neg c1] at hR
      refine j_aload_n C dX12_turn_31 rfl rfl ?_
      refine gM_182 (v := (h 0 9)) C dX12_turn_32 (hz_i (by decide)) ?_
      refine j_bipush (v := 40) C dX12_turn_35 (by decide) ?_
      refine j_icmp_ne (tgt := 43) C dX12_turn_37 (by decide) (fun c2 => ?_) (fun c2 => ?_)
      · have hP := hP.2 c2
        rw [if_neg c2] at hR
        refine j_aload_n C dX12_turn_43 rfl rfl ?_
        refine gM_31 C dX12_turn_44 ?_
        refine j_aload_n C dX12_turn_47 rfl rfl ?_
        refine gM_182 (v := (h 0 9)) C dX12_turn_48 (hz_i (by decide)) ?_
        refine j_iload_n C dX12_turn_51 rfl rfl ?_
        obtain ⟨p5, hP⟩ := hP
        refine j_iast (k := 8) C dX12_turn_52 (by decide) rfl p5 ?_
        refine j_aload_n C dX12_turn_53 rfl rfl ?_
        refine gM_34 C dX12_turn_54 ?_
        refine j_aload_n C dX12_turn_57 rfl rfl ?_
        refine gM_182 (v := (h 0 9)) C dX12_turn_58 ((hz_k (by decide)).trans (hz_i (by decide))) ?_
        refine j_iload_n C dX12_turn_61 rfl rfl ?_
        obtain ⟨p12, hP⟩ := hP
        refine j_iast (k := 9) C dX12_turn_62 (by decide) rfl p12 ?_
        refine j_aload_n C dX12_turn_63 rfl rfl ?_
        refine j_dup C dX12_turn_64 rfl ?_
        refine gM_182 (v := (h 0 9)) C dX12_turn_65 ((hz_k (by decide)).trans ((hz_k (by decide)).trans (hz_i (by decide)))) ?_
        refine j_iconst (v := 1) C dX12_turn_68 (by decide) ?_
        refine j_iadd C dX12_turn_69 ?_
        refine pM_182 C dX12_turn_70 ?_
        refine j_aload_n C dX12_turn_73 rfl rfl ?_
        refine gM_182 (v := ((h 0 9) + 1)) C dX12_turn_74 (hz_e) ?_
        exact hR _ _ dX12_turn_77
      · have hP := hP.1 c2
        rw [if_pos c2] at hR
        refine j_bipush (v := (-2)) C dX12_turn_40 (by decide) ?_
        exact hR _ _ dX12_turn_42
    · have hP := hP.1 c1
      rw [if_pos c1] at hR
      refine j_iconst (v := (-1)) C dX12_turn_29 (by decide) ?_
      exact hR _ _ dX12_turn_30
theorem MX12_turn {l0 : Launch} {Y : fj_Y} {ad : Nat → Nat} (a0 : Int32) (a1 : Int32) (h : ph_H) (hP : PX12_turn a0 a1 h) : MI l0 yX12_turn cX12_turn 3 (some .int) ({ frames := 1, cells := 0, slots := 0, locals := 25 } : Room) Y ad 50 SM h [.ref (ad 0), .int a0, .int a1] (fun r S' h' => S' = SM ∧ h' = (FX12_turn a0 a1 h).2 ∧ r = (FX12_turn a0 a1 h).1) := met_i (by decide) (Nat.le_of_ble_eq_true rfl) (fun _ _ _ _ => rfl) (fun X C K => j_vl (tX12_turn C a0 a1 h hP (fun pc lv hd => K _ _ _ ⟨rfl, rfl, rfl⟩ pc lv hd)) ⟨rfl, rfl, rfl, trivial⟩)

-- X12_freely
def FX12_freely (h : ph_H) : Int32 × ph_H := ((h 0 9), (hs (hs h 0 0 0) 0 9 0))
def PX12_freely (h : ph_H) : Prop := True
set_option maxRecDepth 100000 in
set_option maxHeartbeats 4000000 in
theorem tX12_freely {X : fj_X} {Y : fj_Y} {l0 : Launch} {ad : Nat → Nat} (C : FC X Y l0 cX12_freely 2 RX12 ({ frames := 0, cells := 0, slots := 0, locals := 0 } : Room) 0 0 (some .int)) (h : ph_H) (hP : PX12_freely h) (hR : RETi X Y ad 50 SM cX12_freely (FX12_freely h)) : FJ X Y ad 50 SM h 0 [(0, .ref (ad 0))] [] := by
  unfold PX12_freely at hP
  unfold FX12_freely at hR
  refine j_aload_n C dX12_freely_0 rfl rfl ?_
  refine j_iconst (v := 0) C dX12_freely_1 (by decide) ?_
  refine pM_164 C dX12_freely_2 ?_
  refine j_aload_n C dX12_freely_5 rfl rfl ?_
  refine gM_182 (v := (h 0 9)) C dX12_freely_6 (hz_i (by decide)) ?_
  refine j_istore_n C dX12_freely_9 rfl (by decide) rfl ?_
  refine j_aload_n C dX12_freely_10 rfl rfl ?_
  refine j_iconst (v := 0) C dX12_freely_11 (by decide) ?_
  refine pM_182 C dX12_freely_12 ?_
  refine j_iload_n C dX12_freely_15 rfl rfl ?_
  exact hR _ _ dX12_freely_16
theorem MX12_freely {l0 : Launch} {Y : fj_Y} {ad : Nat → Nat} (h : ph_H) (hP : PX12_freely h) : MI l0 yX12_freely cX12_freely 2 (some .int) ({ frames := 0, cells := 0, slots := 0, locals := 0 } : Room) Y ad 50 SM h [.ref (ad 0)] (fun r S' h' => S' = SM ∧ h' = (FX12_freely h).2 ∧ r = (FX12_freely h).1) := met_i (by decide) (Nat.le_of_ble_eq_true rfl) (fun _ _ _ _ => rfl) (fun X C K => j_vl (tX12_freely C h hP (fun pc lv hd => K _ _ _ ⟨rfl, rfl, rfl⟩ pc lv hd)) ⟨rfl, trivial⟩)

-- X12_begin
def FX12_begin_36 (L2 : Int32 → ph_H → ph_H) (x1 : Int32) (s0 : Int32) (s1 : Int32) (h : ph_H) : ph_H := L2 (x1 + 1) (hs h 11 s1.toNatClampNeg s0)
def PX12_begin_36 (LP2 : Int32 → ph_H → Prop) (x1 : Int32) (s0 : Int32) (s1 : Int32) (h : ph_H) : Prop := vp_in s1 28 ∧ (LP2 (x1 + 1) (hs h 11 s1.toNatClampNeg s0))
set_option maxRecDepth 100000 in
set_option maxHeartbeats 4000000 in
theorem tX12_begin_36 {X : fj_X} {Y : fj_Y} {l0 : Launch} {ad : Nat → Nat} (C : FC X Y l0 cX12_begin 2 RX12 ({ frames := 0, cells := 0, slots := 0, locals := 0 } : Room) 0 0 none) (L2 : Int32 → ph_H → ph_H) (LP2 : Int32 → ph_H → Prop) (hL2 : ∀ (x1 : Int32) (h : ph_H), LP2 x1 h → RETv X Y ad 50 SM cX12_begin (L2 x1 h) → FJ X Y ad 50 SM h 2 [(0, .ref (ad 0)), (1, .int x1)] []) (x1 : Int32) (s0 : Int32) (s1 : Int32) (h : ph_H) (hP : PX12_begin_36 LP2 x1 s0 s1 h) (hR : RETv X Y ad 50 SM cX12_begin (FX12_begin_36 L2 x1 s0 s1 h)) : FJ X Y ad 50 SM h 36 [(0, .ref (ad 0)), (1, .int x1)] [.int s0, .int s1, .ref (ad 11)] := by
  unfold PX12_begin_36 at hP
  unfold FX12_begin_36 at hR
  obtain ⟨p0, hP⟩ := hP
  refine j_iast (k := 11) C dX12_begin_36 (by decide) rfl p0 ?_
  refine j_iinc (v := (x1 + 1)) C dX12_begin_37 rfl rfl (by decide) rfl ?_
  refine j_goto (tgt := 2) C dX12_begin_40 (by decide) ?_
  exact j_vl (hL2 (x1 + 1) (hs h 11 s1.toNatClampNeg s0) hP hR) ⟨rfl, rfl, trivial⟩
def FX12_begin_85 (L45 : Int32 → ph_H → ph_H) (x1 : Int32) (s0 : Int32) (s1 : Int32) (h : ph_H) : ph_H := L45 (x1 + 1) (hs (hs (hs h 13 s1.toNatClampNeg (vp_nar .boolean s0)) 14 x1.toNatClampNeg (-1)) 15 x1.toNatClampNeg (-1))
def PX12_begin_85 (LP45 : Int32 → ph_H → Prop) (x1 : Int32) (s0 : Int32) (s1 : Int32) (h : ph_H) : Prop := vp_in s1 4 ∧ (vp_in x1 4 ∧ (vp_in x1 4 ∧ (LP45 (x1 + 1) (hs (hs (hs h 13 s1.toNatClampNeg (vp_nar .boolean s0)) 14 x1.toNatClampNeg (-1)) 15 x1.toNatClampNeg (-1)))))
set_option maxRecDepth 100000 in
set_option maxHeartbeats 4000000 in
theorem tX12_begin_85 {X : fj_X} {Y : fj_Y} {l0 : Launch} {ad : Nat → Nat} (C : FC X Y l0 cX12_begin 2 RX12 ({ frames := 0, cells := 0, slots := 0, locals := 0 } : Room) 0 0 none) (L45 : Int32 → ph_H → ph_H) (LP45 : Int32 → ph_H → Prop) (hL45 : ∀ (x1 : Int32) (h : ph_H), LP45 x1 h → RETv X Y ad 50 SM cX12_begin (L45 x1 h) → FJ X Y ad 50 SM h 45 [(0, .ref (ad 0)), (1, .int x1)] []) (x1 : Int32) (s0 : Int32) (s1 : Int32) (h : ph_H) (hP : PX12_begin_85 LP45 x1 s0 s1 h) (hR : RETv X Y ad 50 SM cX12_begin (FX12_begin_85 L45 x1 s0 s1 h)) : FJ X Y ad 50 SM h 85 [(0, .ref (ad 0)), (1, .int x1)] [.int s0, .int s1, .ref (ad 13)] := by
  unfold PX12_begin_85 at hP
  unfold FX12_begin_85 at hR
  obtain ⟨p0, hP⟩ := hP
  refine j_zast (k := 13) C dX12_begin_85 (by decide) rfl p0 ?_
  refine j_aload_n C dX12_begin_86 rfl rfl ?_
  refine gM_50 C dX12_begin_87 ?_
  refine j_iload_n C dX12_begin_90 rfl rfl ?_
  refine j_iconst (v := (-1)) C dX12_begin_91 (by decide) ?_
  obtain ⟨p6, hP⟩ := hP
  refine j_iast (k := 14) C dX12_begin_92 (by decide) rfl p6 ?_
  refine j_aload_n C dX12_begin_93 rfl rfl ?_
  refine gM_53 C dX12_begin_94 ?_
  refine j_iload_n C dX12_begin_97 rfl rfl ?_
  refine j_iconst (v := (-1)) C dX12_begin_98 (by decide) ?_
  obtain ⟨p12, hP⟩ := hP
  refine j_iast (k := 15) C dX12_begin_99 (by decide) rfl p12 ?_
  refine j_iinc (v := (x1 + 1)) C dX12_begin_100 rfl rfl (by decide) rfl ?_
  refine j_goto (tgt := 45) C dX12_begin_103 (by decide) ?_
  exact j_vl (hL45 (x1 + 1) (hs (hs (hs h 13 s1.toNatClampNeg (vp_nar .boolean s0)) 14 x1.toNatClampNeg (-1)) 15 x1.toNatClampNeg (-1)) hP hR) ⟨rfl, rfl, trivial⟩
def FX12_begin_70 (L45 : Int32 → ph_H → ph_H) (x1 : Int32) (s0 : Int32) (s1 : Int32) (h : ph_H) : ph_H := if x1 = 0 then (FX12_begin_85 L45 x1 1 x1 (hs h 12 s1.toNatClampNeg s0)) else (FX12_begin_85 L45 x1 0 x1 (hs h 12 s1.toNatClampNeg s0))
def PX12_begin_70 (LP45 : Int32 → ph_H → Prop) (x1 : Int32) (s0 : Int32) (s1 : Int32) (h : ph_H) : Prop := vp_in s1 4 ∧ ((x1 = 0 → (PX12_begin_85 LP45 x1 1 x1 (hs h 12 s1.toNatClampNeg s0))) ∧ (¬ x1 = 0 → (PX12_begin_85 LP45 x1 0 x1 (hs h 12 s1.toNatClampNeg s0))))
set_option maxRecDepth 100000 in
set_option maxHeartbeats 4000000 in
theorem tX12_begin_70 {X : fj_X} {Y : fj_Y} {l0 : Launch} {ad : Nat → Nat} (C : FC X Y l0 cX12_begin 2 RX12 ({ frames := 0, cells := 0, slots := 0, locals := 0 } : Room) 0 0 none) (L45 : Int32 → ph_H → ph_H) (LP45 : Int32 → ph_H → Prop) (hL45 : ∀ (x1 : Int32) (h : ph_H), LP45 x1 h → RETv X Y ad 50 SM cX12_begin (L45 x1 h) → FJ X Y ad 50 SM h 45 [(0, .ref (ad 0)), (1, .int x1)] []) (x1 : Int32) (s0 : Int32) (s1 : Int32) (h : ph_H) (hP : PX12_begin_70 LP45 x1 s0 s1 h) (hR : RETv X Y ad 50 SM cX12_begin (FX12_begin_70 L45 x1 s0 s1 h)) : FJ X Y ad 50 SM h 70 [(0, .ref (ad 0)), (1, .int x1)] [.int s0, .int s1, .ref (ad 12)] := by
  unfold PX12_begin_70 at hP
  unfold FX12_begin_70 at hR
  obtain ⟨p0, hP⟩ := hP
  refine j_iast (k := 12) C dX12_begin_70 (by decide) rfl p0 ?_
  refine j_aload_n C dX12_begin_71 rfl rfl ?_
  refine gM_46 C dX12_begin_72 ?_
  refine j_iload_n C dX12_begin_75 rfl rfl ?_
  refine j_iload_n C dX12_begin_76 rfl rfl ?_
  refine j_if_ne (tgt := 84) C dX12_begin_77 (by decide) (fun c0 => ?_) (fun c0 => ?_)
  · have hP := hP.2 c0
    rw [if_neg c0] at hR
    refine j_iconst (v := 0) C dX12_begin_84 (by decide) ?_
    exact j_vl (tX12_begin_85 C L45 LP45 hL45 x1 0 x1 (hs h 12 s1.toNatClampNeg s0) hP hR) ⟨rfl, rfl, trivial⟩
  · have hP := hP.1 c0
    rw [if_pos c0] at hR
    refine j_iconst (v := 1) C dX12_begin_80 (by decide) ?_
    refine j_goto (tgt := 85) C dX12_begin_81 (by decide) ?_
    exact j_vl (tX12_begin_85 C L45 LP45 hL45 x1 1 x1 (hs h 12 s1.toNatClampNeg s0) hP hR) ⟨rfl, rfl, trivial⟩
def FX12_begin_45  : Nat → Int32 → ph_H → ph_H
  | 0, _, h => h
  | q + 1, x1, h => if 4 ≤ x1 then ((hs (hs (hs (hs (hs (hs h 0 18 0) 0 23 0) 0 24 0) 0 25 0) 0 26 0) 0 35 0)) else (if (h 1 (x1.toNatClampNeg)) ≤ 0 then (FX12_begin_70 (FX12_begin_45  q) x1 24 x1 h) else (FX12_begin_70 (FX12_begin_45  q) x1 0 x1 h))
def PX12_begin_45  : Nat → Int32 → ph_H → Prop
  | 0, _, _ => False
  | q + 1, x1, h => (4 ≤ x1 → (True)) ∧ (¬ 4 ≤ x1 → (vp_in x1 4 ∧ (((h 1 (x1.toNatClampNeg)) ≤ 0 → (PX12_begin_70 (PX12_begin_45  q) x1 24 x1 h)) ∧ (¬ (h 1 (x1.toNatClampNeg)) ≤ 0 → (PX12_begin_70 (PX12_begin_45  q) x1 0 x1 h)))))
set_option maxRecDepth 100000 in
set_option maxHeartbeats 4000000 in
theorem tX12_begin_45 {X : fj_X} {Y : fj_Y} {l0 : Launch} {ad : Nat → Nat} (C : FC X Y l0 cX12_begin 2 RX12 ({ frames := 0, cells := 0, slots := 0, locals := 0 } : Room) 0 0 none) : ∀ (q : Nat) (x1 : Int32) (h : ph_H), PX12_begin_45  q x1 h → RETv X Y ad 50 SM cX12_begin (FX12_begin_45  q x1 h) → FJ X Y ad 50 SM h 45 [(0, .ref (ad 0)), (1, .int x1)] [] := by
  intro q
  induction q with
  | zero =>
    intro x1 h hP hR
    exact absurd hP id
  | succ q ih =>
    intro x1 h hP hR
    unfold PX12_begin_45 at hP
    unfold FX12_begin_45 at hR
    refine j_iload_n C dX12_begin_45 rfl rfl ?_
    refine j_iconst (v := 4) C dX12_begin_46 (by decide) ?_
    refine j_icmp_ge (tgt := 106) C dX12_begin_47 (by decide) (fun c0 => ?_) (fun c0 => ?_)
    · have hP := hP.1 c0
      rw [if_pos c0] at hR
      refine j_aload_n C dX12_begin_106 rfl rfl ?_
      refine j_iconst (v := 0) C dX12_begin_107 (by decide) ?_
      refine pM_185 C dX12_begin_108 ?_
      refine j_aload_n C dX12_begin_111 rfl rfl ?_
      refine j_iconst (v := 0) C dX12_begin_112 (by decide) ?_
      refine pM_188 C dX12_begin_113 ?_
      refine j_aload_n C dX12_begin_116 rfl rfl ?_
      refine j_iconst (v := 0) C dX12_begin_117 (by decide) ?_
      refine pM_191 C dX12_begin_118 ?_
      refine j_aload_n C dX12_begin_121 rfl rfl ?_
      refine j_iconst (v := 0) C dX12_begin_122 (by decide) ?_
      refine pM_194 C dX12_begin_123 ?_
      refine j_aload_n C dX12_begin_126 rfl rfl ?_
      refine j_iconst (v := 0) C dX12_begin_127 (by decide) ?_
      refine pM_197 C dX12_begin_128 ?_
      refine j_aload_n C dX12_begin_131 rfl rfl ?_
      refine j_iconst (v := 0) C dX12_begin_132 (by decide) ?_
      refine pM_200 C dX12_begin_133 bo_0 ?_
      exact hR _ _ dX12_begin_136
    · have hP := hP.2 c0
      rw [if_neg c0] at hR
      refine j_aload_n C dX12_begin_50 rfl rfl ?_
      refine gM_43 C dX12_begin_51 ?_
      refine j_iload_n C dX12_begin_54 rfl rfl ?_
      refine j_aload_n C dX12_begin_55 rfl rfl ?_
      refine gM_7 C dX12_begin_56 ?_
      refine j_iload_n C dX12_begin_59 rfl rfl ?_
      obtain ⟨p6, hP⟩ := hP
      refine j_iald (k := 1) (v := (h 1 (x1.toNatClampNeg))) C dX12_begin_60 (by decide) rfl p6 rfl ?_
      refine j_if_le (tgt := 68) C dX12_begin_61 (by decide) (fun c1 => ?_) (fun c1 => ?_)
      · have hP := hP.1 c1
        rw [if_pos c1] at hR
        refine j_bipush (v := 24) C dX12_begin_68 (by decide) ?_
        exact j_vl (tX12_begin_70 C (FX12_begin_45  q) (PX12_begin_45  q) (ih) x1 24 x1 h hP hR) ⟨rfl, rfl, trivial⟩
      · have hP := hP.2 c1
        rw [if_neg c1] at hR
        refine j_iconst (v := 0) C dX12_begin_64 (by decide) ?_
        refine j_goto (tgt := 70) C dX12_begin_65 (by decide) ?_
        exact j_vl (tX12_begin_70 C (FX12_begin_45  q) (PX12_begin_45  q) (ih) x1 0 x1 h hP hR) ⟨rfl, rfl, trivial⟩
def FX12_begin_2  : Nat → Int32 → ph_H → ph_H
  | 0, _, h => h
  | q + 1, x1, h => if 28 ≤ x1 then (FX12_begin_45 2000 0 h) else (if 12 ≤ x1 then (FX12_begin_36 (FX12_begin_2  q) x1 0 x1 (hs h 10 x1.toNatClampNeg 0)) else (FX12_begin_36 (FX12_begin_2  q) x1 (h 6 (x1.toNatClampNeg)) x1 (hs h 10 x1.toNatClampNeg 0)))
def PX12_begin_2  : Nat → Int32 → ph_H → Prop
  | 0, _, _ => False
  | q + 1, x1, h => (28 ≤ x1 → (PX12_begin_45 2000 0 h)) ∧ (¬ 28 ≤ x1 → (vp_in x1 28 ∧ ((12 ≤ x1 → (PX12_begin_36 (PX12_begin_2  q) x1 0 x1 (hs h 10 x1.toNatClampNeg 0))) ∧ (¬ 12 ≤ x1 → (vp_in x1 12 ∧ (PX12_begin_36 (PX12_begin_2  q) x1 (h 6 (x1.toNatClampNeg)) x1 (hs h 10 x1.toNatClampNeg 0)))))))
set_option maxRecDepth 100000 in
set_option maxHeartbeats 4000000 in
theorem tX12_begin_2 {X : fj_X} {Y : fj_Y} {l0 : Launch} {ad : Nat → Nat} (C : FC X Y l0 cX12_begin 2 RX12 ({ frames := 0, cells := 0, slots := 0, locals := 0 } : Room) 0 0 none) : ∀ (q : Nat) (x1 : Int32) (h : ph_H), PX12_begin_2  q x1 h → RETv X Y ad 50 SM cX12_begin (FX12_begin_2  q x1 h) → FJ X Y ad 50 SM h 2 [(0, .ref (ad 0)), (1, .int x1)] [] := by
  intro q
  induction q with
  | zero =>
    intro x1 h hP hR
    exact absurd hP id
  | succ q ih =>
    intro x1 h hP hR
    unfold PX12_begin_2 at hP
    unfold FX12_begin_2 at hR
    refine j_iload_n C dX12_begin_2 rfl rfl ?_
    refine j_bipush (v := 28) C dX12_begin_3 (by decide) ?_
    refine j_icmp_ge (tgt := 43) C dX12_begin_5 (by decide) (fun c0 => ?_) (fun c0 => ?_)
    · have hP := hP.1 c0
      rw [if_pos c0] at hR
      refine j_iconst (v := 0) C dX12_begin_43 (by decide) ?_
      refine j_istore_n C dX12_begin_44 rfl (by decide) rfl ?_
      exact j_vl (tX12_begin_45 C 2000 0 h hP hR) ⟨rfl, rfl, trivial⟩
    · have hP := hP.2 c0
      rw [if_neg c0] at hR
      refine j_aload_n C dX12_begin_8 rfl rfl ?_
      refine gM_37 C dX12_begin_9 ?_
      refine j_iload_n C dX12_begin_12 rfl rfl ?_
      refine j_iconst (v := 0) C dX12_begin_13 (by decide) ?_
      obtain ⟨p4, hP⟩ := hP
      refine j_iast (k := 10) C dX12_begin_14 (by decide) rfl p4 ?_
      refine j_aload_n C dX12_begin_15 rfl rfl ?_
      refine gM_40 C dX12_begin_16 ?_
      refine j_iload_n C dX12_begin_19 rfl rfl ?_
      refine j_iload_n C dX12_begin_20 rfl rfl ?_
      refine j_bipush (v := 12) C dX12_begin_21 (by decide) ?_
      refine j_icmp_ge (tgt := 35) C dX12_begin_23 (by decide) (fun c1 => ?_) (fun c1 => ?_)
      · have hP := hP.1 c1
        rw [if_pos c1] at hR
        refine j_iconst (v := 0) C dX12_begin_35 (by decide) ?_
        exact j_vl (tX12_begin_36 C (FX12_begin_2  q) (PX12_begin_2  q) (ih) x1 0 x1 (hs h 10 x1.toNatClampNeg 0) hP hR) ⟨rfl, rfl, trivial⟩
      · have hP := hP.2 c1
        rw [if_neg c1] at hR
        refine j_aload_n C dX12_begin_26 rfl rfl ?_
        refine gM_25 C dX12_begin_27 ?_
        refine j_iload_n C dX12_begin_30 rfl rfl ?_
        obtain ⟨p3, hP⟩ := hP
        refine j_iald (k := 6) (v := (h 6 (x1.toNatClampNeg))) C dX12_begin_31 (by decide) rfl p3 (hz_k (by decide)) ?_
        refine j_goto (tgt := 36) C dX12_begin_32 (by decide) ?_
        exact j_vl (tX12_begin_36 C (FX12_begin_2  q) (PX12_begin_2  q) (ih) x1 (h 6 (x1.toNatClampNeg)) x1 (hs h 10 x1.toNatClampNeg 0) hP hR) ⟨rfl, rfl, trivial⟩
def FX12_begin (h : ph_H) : ph_H := FX12_begin_2 2000 0 h
def PX12_begin (h : ph_H) : Prop := PX12_begin_2 2000 0 h
set_option maxRecDepth 100000 in
set_option maxHeartbeats 4000000 in
theorem tX12_begin {X : fj_X} {Y : fj_Y} {l0 : Launch} {ad : Nat → Nat} (C : FC X Y l0 cX12_begin 2 RX12 ({ frames := 0, cells := 0, slots := 0, locals := 0 } : Room) 0 0 none) (h : ph_H) (hP : PX12_begin h) (hR : RETv X Y ad 50 SM cX12_begin (FX12_begin h)) : FJ X Y ad 50 SM h 0 [(0, .ref (ad 0))] [] := by
  unfold PX12_begin at hP
  unfold FX12_begin at hR
  refine j_iconst (v := 0) C dX12_begin_0 (by decide) ?_
  refine j_istore_n C dX12_begin_1 rfl (by decide) rfl ?_
  exact j_vl (tX12_begin_2 C 2000 0 h hP hR) ⟨rfl, rfl, trivial⟩
theorem MX12_begin {l0 : Launch} {Y : fj_Y} {ad : Nat → Nat} (h : ph_H) (hP : PX12_begin h) : MV l0 yX12_begin cX12_begin 2 ({ frames := 0, cells := 0, slots := 0, locals := 0 } : Room) Y ad 50 SM h [.ref (ad 0)] (fun S' h' => S' = SM ∧ h' = FX12_begin h) := met_v (by decide) (Nat.le_of_ble_eq_true rfl) (fun X C K => j_vl (tX12_begin C h hP (fun pc lv hd => K _ _ ⟨rfl, rfl⟩ pc lv hd)) ⟨rfl, trivial⟩)

-- X12_local
def FX12_local (a0 : Int32) (a1 : Int32) (h : ph_H) : Int32 := ((12 + (4 * a0)) + (FX12_modulo a1 4))
def PX12_local (a0 : Int32) (a1 : Int32) (h : ph_H) : Prop := (PX12_modulo a1 4) ∧ (True)
set_option maxRecDepth 100000 in
set_option maxHeartbeats 4000000 in
theorem tX12_local {X : fj_X} {Y : fj_Y} {l0 : Launch} {ad : Nat → Nat} (C : FC X Y l0 cX12_local 3 RX12 ({ frames := 1, cells := 0, slots := 0, locals := 21 } : Room) 0 0 (some .int)) (a0 : Int32) (a1 : Int32) (h : ph_H) (hP : PX12_local a0 a1 h) (hR : RETp X Y ad 50 SM h cX12_local (FX12_local a0 a1 h)) : FJ X Y ad 50 SM h 0 [(0, .ref (ad 0)), (1, .int a0), (2, .int a1)] [] := by
  unfold PX12_local at hP
  unfold FX12_local at hR
  refine j_bipush (v := 12) C dX12_local_0 (by decide) ?_
  refine j_iconst (v := 4) C dX12_local_2 (by decide) ?_
  refine j_iload_n C dX12_local_3 rfl rfl ?_
  refine j_imul C dX12_local_4 ?_
  refine j_iadd C dX12_local_5 ?_
  refine j_iload_n C dX12_local_6 rfl rfl ?_
  refine j_iconst (v := 4) C dX12_local_7 (by decide) ?_
  obtain ⟨p7, hP⟩ := hP
  refine j_callS C (MX12_modulo a1 4 h p7) dX12_local_8 (CKX12_modulo (by decide)) ⟨rfl, rfl⟩ lk_RX12_204 st_X12_modulo rfl (Nat.le_of_ble_eq_true rfl) ?_
  intro r S' h' hq
  obtain ⟨rfl, hh, rfl⟩ := hq
  rw [hh]
  refine j_iadd C dX12_local_11 ?_
  exact hR _ _ dX12_local_12
theorem MX12_local {l0 : Launch} {Y : fj_Y} {ad : Nat → Nat} (a0 : Int32) (a1 : Int32) (h : ph_H) (hP : PX12_local a0 a1 h) : MI l0 yX12_local cX12_local 3 (some .int) ({ frames := 1, cells := 0, slots := 0, locals := 21 } : Room) Y ad 50 SM h [.ref (ad 0), .int a0, .int a1] (fun r S' h' => S' = SM ∧ h' = h ∧ r = FX12_local a0 a1 h) := met_i (by decide) (Nat.le_of_ble_eq_true rfl) (fun _ _ _ _ => rfl) (fun X C K => j_vl (tX12_local C a0 a1 h hP (fun pc lv hd => K _ _ _ ⟨rfl, rfl, rfl⟩ pc lv hd)) ⟨rfl, rfl, rfl, trivial⟩)

-- X12_isLock
def FX12_isLock_20  (h : ph_H) : Int32 := 1
def PX12_isLock_20  (h : ph_H) : Prop := True
set_option maxRecDepth 100000 in
set_option maxHeartbeats 4000000 in
theorem tX12_isLock_20 {X : fj_X} {Y : fj_Y} {l0 : Launch} {ad : Nat → Nat} (C : FC X Y l0 cX12_isLock 2 RX12 ({ frames := 0, cells := 0, slots := 0, locals := 0 } : Room) 0 0 (some .boolean)) (h : ph_H)  (hP : PX12_isLock_20  h) (hR : RETq X Y ad 50 SM h cX12_isLock (FX12_isLock_20  h)) : FJ X Y ad 50 SM h 20 [] [] := by
  unfold PX12_isLock_20 at hP
  unfold FX12_isLock_20 at hR
  refine j_iconst (v := 1) C dX12_isLock_20 (by decide) ?_
  refine j_goto (tgt := 25) C dX12_isLock_21 (by decide) ?_
  exact hR bo_1 _ _ dX12_isLock_25
def FX12_isLock (a0 : Int32) (h : ph_H) : Int32 := if (h 10 (a0.toNatClampNeg)) = 2 then (FX12_isLock_20  h) else (if (h 10 (a0.toNatClampNeg)) = 3 then (FX12_isLock_20  h) else (0))
def PX12_isLock (a0 : Int32) (h : ph_H) : Prop := vp_in a0 28 ∧ (((h 10 (a0.toNatClampNeg)) = 2 → (PX12_isLock_20  h)) ∧ (¬ (h 10 (a0.toNatClampNeg)) = 2 → (vp_in a0 28 ∧ (((h 10 (a0.toNatClampNeg)) = 3 → (PX12_isLock_20  h)) ∧ (¬ (h 10 (a0.toNatClampNeg)) = 3 → (True))))))
set_option maxRecDepth 100000 in
set_option maxHeartbeats 4000000 in
theorem tX12_isLock {X : fj_X} {Y : fj_Y} {l0 : Launch} {ad : Nat → Nat} (C : FC X Y l0 cX12_isLock 2 RX12 ({ frames := 0, cells := 0, slots := 0, locals := 0 } : Room) 0 0 (some .boolean)) (a0 : Int32) (h : ph_H) (hP : PX12_isLock a0 h) (hR : RETq X Y ad 50 SM h cX12_isLock (FX12_isLock a0 h)) : FJ X Y ad 50 SM h 0 [(0, .ref (ad 0)), (1, .int a0)] [] := by
  unfold PX12_isLock at hP
  unfold FX12_isLock at hR
  refine j_aload_n C dX12_isLock_0 rfl rfl ?_
  refine gM_37 C dX12_isLock_1 ?_
  refine j_iload_n C dX12_isLock_4 rfl rfl ?_
  obtain ⟨p3, hP⟩ := hP
  refine j_iald (k := 10) (v := (h 10 (a0.toNatClampNeg))) C dX12_isLock_5 (by decide) rfl p3 rfl ?_
  refine j_iconst (v := 2) C dX12_isLock_6 (by decide) ?_
  refine j_icmp_eq (tgt := 20) C dX12_isLock_7 (by decide) (fun c0 => ?_) (fun c0 => ?_)
  · have hP := hP.1 c0
    rw [if_pos c0] at hR
    exact j_vl (tX12_isLock_20 C h  hP hR) trivial
  · have hP := hP.2 c0
    rw [if_neg c0] at hR
    refine j_aload_n C dX12_isLock_10 rfl rfl ?_
    refine gM_37 C dX12_isLock_11 ?_
    refine j_iload_n C dX12_isLock_14 rfl rfl ?_
    obtain ⟨p3, hP⟩ := hP
    refine j_iald (k := 10) (v := (h 10 (a0.toNatClampNeg))) C dX12_isLock_15 (by decide) rfl p3 rfl ?_
    refine j_iconst (v := 3) C dX12_isLock_16 (by decide) ?_
    refine j_icmp_ne (tgt := 24) C dX12_isLock_17 (by decide) (fun c1 => ?_) (fun c1 => ?_)
    · have hP := hP.2 c1
      rw [if_neg c1] at hR
      refine j_iconst (v := 0) C dX12_isLock_24 (by decide) ?_
      exact hR bo_0 _ _ dX12_isLock_25
    · have hP := hP.1 c1
      rw [if_pos c1] at hR
      exact j_vl (tX12_isLock_20 C h  hP hR) trivial
theorem MX12_isLock {l0 : Launch} {Y : fj_Y} {ad : Nat → Nat} (a0 : Int32) (h : ph_H) (hP : PX12_isLock a0 h) : MI l0 yX12_isLock cX12_isLock 2 (some .boolean) ({ frames := 0, cells := 0, slots := 0, locals := 0 } : Room) Y ad 50 SM h [.ref (ad 0), .int a0] (fun r S' h' => S' = SM ∧ h' = h ∧ r = FX12_isLock a0 h ∧ bo r) := met_i (by decide) (Nat.le_of_ble_eq_true rfl) (fun _ _ _ q => bo_n q.2.2.2) (fun X C K => j_vl (tX12_isLock C a0 h hP (fun b pc lv hd => K _ _ _ ⟨rfl, rfl, rfl, b⟩ pc lv hd)) ⟨rfl, rfl, trivial⟩)

-- X12_canGo
def FX12_canGo_144  (h : ph_H) : Int32 := 1
def PX12_canGo_144  (h : ph_H) : Prop := True
set_option maxRecDepth 100000 in
set_option maxHeartbeats 4000000 in
theorem tX12_canGo_144 {X : fj_X} {Y : fj_Y} {l0 : Launch} {ad : Nat → Nat} (C : FC X Y l0 cX12_canGo 5 RX12 ({ frames := 2, cells := 0, slots := 0, locals := 43 } : Room) 0 0 (some .boolean)) (h : ph_H)  (hP : PX12_canGo_144  h) (hR : RETq X Y ad 50 SM h cX12_canGo (FX12_canGo_144  h)) : FJ X Y ad 50 SM h 144 [] [] := by
  unfold PX12_canGo_144 at hP
  unfold FX12_canGo_144 at hR
  refine j_iconst (v := 1) C dX12_canGo_144 (by decide) ?_
  refine j_goto (tgt := 149) C dX12_canGo_145 (by decide) ?_
  exact hR bo_1 _ _ dX12_canGo_149
def FX12_canGo_108  (x1 : Int32) (x3 : Int32) (s0 : Int32) (h : ph_H) : Int32 := if s0 = 0 then (FX12_canGo_144  h) else (if (h 17 ((h 11 (x3.toNatClampNeg)).toNatClampNeg)) < 0 then (FX12_canGo_144  h) else (if (h 17 ((h 11 (x3.toNatClampNeg)).toNatClampNeg)) = x1 then (FX12_canGo_144  h) else (0)))
def PX12_canGo_108  (x1 : Int32) (x3 : Int32) (s0 : Int32) (h : ph_H) : Prop := (s0 = 0 → (PX12_canGo_144  h)) ∧ (¬ s0 = 0 → (vp_in x3 28 ∧ (vp_in (h 11 (x3.toNatClampNeg)) 12 ∧ (((h 17 ((h 11 (x3.toNatClampNeg)).toNatClampNeg)) < 0 → (PX12_canGo_144  h)) ∧ (¬ (h 17 ((h 11 (x3.toNatClampNeg)).toNatClampNeg)) < 0 → (vp_in x3 28 ∧ (vp_in (h 11 (x3.toNatClampNeg)) 12 ∧ (((h 17 ((h 11 (x3.toNatClampNeg)).toNatClampNeg)) = x1 → (PX12_canGo_144  h)) ∧ (¬ (h 17 ((h 11 (x3.toNatClampNeg)).toNatClampNeg)) = x1 → (True))))))))))
set_option maxRecDepth 100000 in
set_option maxHeartbeats 4000000 in
theorem tX12_canGo_108 {X : fj_X} {Y : fj_Y} {l0 : Launch} {ad : Nat → Nat} (C : FC X Y l0 cX12_canGo 5 RX12 ({ frames := 2, cells := 0, slots := 0, locals := 43 } : Room) 0 0 (some .boolean)) (h : ph_H) (x1 : Int32) (x3 : Int32) (s0 : Int32) (hP : PX12_canGo_108  x1 x3 s0 h) (hR : RETq X Y ad 50 SM h cX12_canGo (FX12_canGo_108  x1 x3 s0 h)) : FJ X Y ad 50 SM h 108 [(0, .ref (ad 0)), (1, .int x1), (3, .int x3)] [.int s0] := by
  unfold PX12_canGo_108 at hP
  unfold FX12_canGo_108 at hR
  refine j_istore C dX12_canGo_108 (by decide) rfl ?_
  refine j_iload C dX12_canGo_110 rfl ?_
  refine j_if_eq (tgt := 144) C dX12_canGo_112 (by decide) (fun c0 => ?_) (fun c0 => ?_)
  · have hP := hP.1 c0
    rw [if_pos c0] at hR
    exact j_vl (tX12_canGo_144 C h  hP hR) trivial
  · have hP := hP.2 c0
    rw [if_neg c0] at hR
    refine j_aload_n C dX12_canGo_115 rfl rfl ?_
    refine gM_59 C dX12_canGo_116 ?_
    refine j_aload_n C dX12_canGo_119 rfl rfl ?_
    refine gM_40 C dX12_canGo_120 ?_
    refine j_iload_n C dX12_canGo_123 rfl rfl ?_
    obtain ⟨p5, hP⟩ := hP
    refine j_iald (k := 11) (v := (h 11 (x3.toNatClampNeg))) C dX12_canGo_124 (by decide) rfl p5 rfl ?_
    obtain ⟨p7, hP⟩ := hP
    refine j_iald (k := 17) (v := (h 17 ((h 11 (x3.toNatClampNeg)).toNatClampNeg))) C dX12_canGo_125 (by decide) rfl p7 rfl ?_
    refine j_if_lt (tgt := 144) C dX12_canGo_126 (by decide) (fun c1 => ?_) (fun c1 => ?_)
    · have hP := hP.1 c1
      rw [if_pos c1] at hR
      exact j_vl (tX12_canGo_144 C h  hP hR) trivial
    · have hP := hP.2 c1
      rw [if_neg c1] at hR
      refine j_aload_n C dX12_canGo_129 rfl rfl ?_
      refine gM_59 C dX12_canGo_130 ?_
      refine j_aload_n C dX12_canGo_133 rfl rfl ?_
      refine gM_40 C dX12_canGo_134 ?_
      refine j_iload_n C dX12_canGo_137 rfl rfl ?_
      obtain ⟨p5, hP⟩ := hP
      refine j_iald (k := 11) (v := (h 11 (x3.toNatClampNeg))) C dX12_canGo_138 (by decide) rfl p5 rfl ?_
      obtain ⟨p7, hP⟩ := hP
      refine j_iald (k := 17) (v := (h 17 ((h 11 (x3.toNatClampNeg)).toNatClampNeg))) C dX12_canGo_139 (by decide) rfl p7 rfl ?_
      refine j_iload_n C dX12_canGo_140 rfl rfl ?_
      refine j_icmp_ne (tgt := 148) C dX12_canGo_141 (by decide) (fun c2 => ?_) (fun c2 => ?_)
      · have hP := hP.2 c2
        rw [if_neg c2] at hR
        refine j_iconst (v := 0) C dX12_canGo_148 (by decide) ?_
        exact hR bo_0 _ _ dX12_canGo_149
      · have hP := hP.1 c2
        rw [if_pos c2] at hR
        exact j_vl (tX12_canGo_144 C h  hP hR) trivial
def FX12_canGo_107  (x1 : Int32) (x3 : Int32) (h : ph_H) : Int32 := FX12_canGo_108  x1 x3 0 h
def PX12_canGo_107  (x1 : Int32) (x3 : Int32) (h : ph_H) : Prop := PX12_canGo_108  x1 x3 0 h
set_option maxRecDepth 100000 in
set_option maxHeartbeats 4000000 in
theorem tX12_canGo_107 {X : fj_X} {Y : fj_Y} {l0 : Launch} {ad : Nat → Nat} (C : FC X Y l0 cX12_canGo 5 RX12 ({ frames := 2, cells := 0, slots := 0, locals := 43 } : Room) 0 0 (some .boolean)) (h : ph_H) (x1 : Int32) (x3 : Int32) (hP : PX12_canGo_107  x1 x3 h) (hR : RETq X Y ad 50 SM h cX12_canGo (FX12_canGo_107  x1 x3 h)) : FJ X Y ad 50 SM h 107 [(0, .ref (ad 0)), (1, .int x1), (3, .int x3)] [] := by
  unfold PX12_canGo_107 at hP
  unfold FX12_canGo_107 at hR
  refine j_iconst (v := 0) C dX12_canGo_107 (by decide) ?_
  exact j_vl (tX12_canGo_108 C h x1 x3 0 hP hR) ⟨rfl, rfl, rfl, trivial⟩
def FX12_canGo (a0 : Int32) (h : ph_H) : Int32 := if (h 13 (a0.toNatClampNeg)) = 0 then (0) else (if (h 12 (a0.toNatClampNeg)) = 24 then (0) else (if (h 14 (a0.toNatClampNeg)) < 0 then (if (h 15 (a0.toNatClampNeg)) < 0 then (if (h 2 (((24 * a0) + (h 12 (a0.toNatClampNeg))).toNatClampNeg)) = 12 then (if (FX12_isLock (FX12_local a0 (h 3 (((24 * a0) + (h 12 (a0.toNatClampNeg))).toNatClampNeg)) h) h) = 0 then (FX12_canGo_107  a0 (FX12_local a0 (h 3 (((24 * a0) + (h 12 (a0.toNatClampNeg))).toNatClampNeg)) h) h) else (FX12_canGo_108  a0 (FX12_local a0 (h 3 (((24 * a0) + (h 12 (a0.toNatClampNeg))).toNatClampNeg)) h) 1 h)) else (FX12_canGo_107  a0 (FX12_local a0 (h 3 (((24 * a0) + (h 12 (a0.toNatClampNeg))).toNatClampNeg)) h) h)) else (if 0 ≤ (h 17 ((h 15 (a0.toNatClampNeg)).toNatClampNeg)) then (0) else (1))) else (0)))
def PX12_canGo (a0 : Int32) (h : ph_H) : Prop := vp_in a0 4 ∧ (((h 13 (a0.toNatClampNeg)) = 0 → (True)) ∧ (¬ (h 13 (a0.toNatClampNeg)) = 0 → (vp_in a0 4 ∧ (((h 12 (a0.toNatClampNeg)) = 24 → (True)) ∧ (¬ (h 12 (a0.toNatClampNeg)) = 24 → (vp_in a0 4 ∧ (((h 14 (a0.toNatClampNeg)) < 0 → (vp_in a0 4 ∧ (((h 15 (a0.toNatClampNeg)) < 0 → (vp_in a0 4 ∧ (vp_in ((24 * a0) + (h 12 (a0.toNatClampNeg))) 96 ∧ ((PX12_local a0 (h 3 (((24 * a0) + (h 12 (a0.toNatClampNeg))).toNatClampNeg)) h) ∧ (vp_in ((24 * a0) + (h 12 (a0.toNatClampNeg))) 96 ∧ (((h 2 (((24 * a0) + (h 12 (a0.toNatClampNeg))).toNatClampNeg)) = 12 → ((PX12_isLock (FX12_local a0 (h 3 (((24 * a0) + (h 12 (a0.toNatClampNeg))).toNatClampNeg)) h) h) ∧ (((FX12_isLock (FX12_local a0 (h 3 (((24 * a0) + (h 12 (a0.toNatClampNeg))).toNatClampNeg)) h) h) = 0 → (PX12_canGo_107  a0 (FX12_local a0 (h 3 (((24 * a0) + (h 12 (a0.toNatClampNeg))).toNatClampNeg)) h) h)) ∧ (¬ (FX12_isLock (FX12_local a0 (h 3 (((24 * a0) + (h 12 (a0.toNatClampNeg))).toNatClampNeg)) h) h) = 0 → (PX12_canGo_108  a0 (FX12_local a0 (h 3 (((24 * a0) + (h 12 (a0.toNatClampNeg))).toNatClampNeg)) h) 1 h))))) ∧ (¬ (h 2 (((24 * a0) + (h 12 (a0.toNatClampNeg))).toNatClampNeg)) = 12 → (PX12_canGo_107  a0 (FX12_local a0 (h 3 (((24 * a0) + (h 12 (a0.toNatClampNeg))).toNatClampNeg)) h) h)))))))) ∧ (¬ (h 15 (a0.toNatClampNeg)) < 0 → (vp_in a0 4 ∧ (vp_in (h 15 (a0.toNatClampNeg)) 12 ∧ ((0 ≤ (h 17 ((h 15 (a0.toNatClampNeg)).toNatClampNeg)) → (True)) ∧ (¬ 0 ≤ (h 17 ((h 15 (a0.toNatClampNeg)).toNatClampNeg)) → (True))))))))) ∧ (¬ (h 14 (a0.toNatClampNeg)) < 0 → (True)))))))))
set_option maxRecDepth 100000 in
set_option maxHeartbeats 4000000 in
theorem tX12_canGo {X : fj_X} {Y : fj_Y} {l0 : Launch} {ad : Nat → Nat} (C : FC X Y l0 cX12_canGo 5 RX12 ({ frames := 2, cells := 0, slots := 0, locals := 43 } : Room) 0 0 (some .boolean)) (a0 : Int32) (h : ph_H) (hP : PX12_canGo a0 h) (hR : RETq X Y ad 50 SM h cX12_canGo (FX12_canGo a0 h)) : FJ X Y ad 50 SM h 0 [(0, .ref (ad 0)), (1, .int a0)] [] := by
  unfold PX12_canGo at hP
  unfold FX12_canGo at hR
  refine j_aload_n C dX12_canGo_0 rfl rfl ?_
  refine gM_46 C dX12_canGo_1 ?_
  refine j_iload_n C dX12_canGo_4 rfl rfl ?_
  obtain ⟨p3, hP⟩ := hP
  refine j_zald (k := 13) (v := (h 13 (a0.toNatClampNeg))) C dX12_canGo_5 (by decide) rfl p3 rfl ?_
  refine j_if_eq (tgt := 29) C dX12_canGo_6 (by decide) (fun c0 => ?_) (fun c0 => ?_)
  · have hP := hP.1 c0
    rw [if_pos c0] at hR
    refine j_iconst (v := 0) C dX12_canGo_29 (by decide) ?_
    exact hR bo_0 _ _ dX12_canGo_30
  · have hP := hP.2 c0
    rw [if_neg c0] at hR
    refine j_aload_n C dX12_canGo_9 rfl rfl ?_
    refine gM_43 C dX12_canGo_10 ?_
    refine j_iload_n C dX12_canGo_13 rfl rfl ?_
    obtain ⟨p3, hP⟩ := hP
    refine j_iald (k := 12) (v := (h 12 (a0.toNatClampNeg))) C dX12_canGo_14 (by decide) rfl p3 rfl ?_
    refine j_bipush (v := 24) C dX12_canGo_15 (by decide) ?_
    refine j_icmp_eq (tgt := 29) C dX12_canGo_17 (by decide) (fun c1 => ?_) (fun c1 => ?_)
    · have hP := hP.1 c1
      rw [if_pos c1] at hR
      refine j_iconst (v := 0) C dX12_canGo_29 (by decide) ?_
      exact hR bo_0 _ _ dX12_canGo_30
    · have hP := hP.2 c1
      rw [if_neg c1] at hR
      refine j_aload_n C dX12_canGo_20 rfl rfl ?_
      refine gM_50 C dX12_canGo_21 ?_
      refine j_iload_n C dX12_canGo_24 rfl rfl ?_
      obtain ⟨p3, hP⟩ := hP
      refine j_iald (k := 14) (v := (h 14 (a0.toNatClampNeg))) C dX12_canGo_25 (by decide) rfl p3 rfl ?_
      refine j_if_lt (tgt := 31) C dX12_canGo_26 (by decide) (fun c2 => ?_) (fun c2 => ?_)
      · have hP := hP.1 c2
        rw [if_pos c2] at hR
        refine j_aload_n C dX12_canGo_31 rfl rfl ?_
        refine gM_53 C dX12_canGo_32 ?_
        refine j_iload_n C dX12_canGo_35 rfl rfl ?_
        obtain ⟨p3, hP⟩ := hP
        refine j_iald (k := 15) (v := (h 15 (a0.toNatClampNeg))) C dX12_canGo_36 (by decide) rfl p3 rfl ?_
        refine j_if_lt (tgt := 60) C dX12_canGo_37 (by decide) (fun c3 => ?_) (fun c3 => ?_)
        · have hP := hP.1 c3
          rw [if_pos c3] at hR
          refine j_bipush (v := 24) C dX12_canGo_60 (by decide) ?_
          refine j_iload_n C dX12_canGo_62 rfl rfl ?_
          refine j_imul C dX12_canGo_63 ?_
          refine j_aload_n C dX12_canGo_64 rfl rfl ?_
          refine gM_43 C dX12_canGo_65 ?_
          refine j_iload_n C dX12_canGo_68 rfl rfl ?_
          obtain ⟨p6, hP⟩ := hP
          refine j_iald (k := 12) (v := (h 12 (a0.toNatClampNeg))) C dX12_canGo_69 (by decide) rfl p6 rfl ?_
          refine j_iadd C dX12_canGo_70 ?_
          refine j_istore_n C dX12_canGo_71 rfl (by decide) rfl ?_
          refine j_aload_n C dX12_canGo_72 rfl rfl ?_
          refine j_iload_n C dX12_canGo_73 rfl rfl ?_
          refine j_aload_n C dX12_canGo_74 rfl rfl ?_
          refine gM_16 C dX12_canGo_75 ?_
          refine j_iload_n C dX12_canGo_78 rfl rfl ?_
          obtain ⟨p15, hP⟩ := hP
          refine j_iald (k := 3) (v := (h 3 (((24 * a0) + (h 12 (a0.toNatClampNeg))).toNatClampNeg))) C dX12_canGo_79 (by decide) rfl p15 rfl ?_
          obtain ⟨p17, hP⟩ := hP
          refine j_callV C (MX12_local a0 (h 3 (((24 * a0) + (h 12 (a0.toNatClampNeg))).toNatClampNeg)) h p17) dX12_canGo_80 (CKX12_local (by decide)) ⟨rfl, rfl⟩ lk_RX12_208 in_X12_local se_X12_local (by decide) rfl rfl rfl (Nat.le_of_ble_eq_true rfl) ?_
          intro r S' h' hq
          obtain ⟨rfl, hh, rfl⟩ := hq
          rw [hh]
          refine j_istore_n C dX12_canGo_83 rfl (by decide) rfl ?_
          refine j_aload_n C dX12_canGo_84 rfl rfl ?_
          refine gM_13 C dX12_canGo_85 ?_
          refine j_iload_n C dX12_canGo_88 rfl rfl ?_
          obtain ⟨p26, hP⟩ := hP
          refine j_iald (k := 2) (v := (h 2 (((24 * a0) + (h 12 (a0.toNatClampNeg))).toNatClampNeg))) C dX12_canGo_89 (by decide) rfl p26 rfl ?_
          refine j_bipush (v := 12) C dX12_canGo_90 (by decide) ?_
          refine j_icmp_ne (tgt := 107) C dX12_canGo_92 (by decide) (fun c4 => ?_) (fun c4 => ?_)
          · have hP := hP.2 c4
            rw [if_neg c4] at hR
            exact j_vl (tX12_canGo_107 C h a0 (FX12_local a0 (h 3 (((24 * a0) + (h 12 (a0.toNatClampNeg))).toNatClampNeg)) h) hP hR) ⟨rfl, rfl, rfl, trivial⟩
          · have hP := hP.1 c4
            rw [if_pos c4] at hR
            refine j_aload_n C dX12_canGo_95 rfl rfl ?_
            refine j_iload_n C dX12_canGo_96 rfl rfl ?_
            obtain ⟨p2, hP⟩ := hP
            refine j_callV C (MX12_isLock (FX12_local a0 (h 3 (((24 * a0) + (h 12 (a0.toNatClampNeg))).toNatClampNeg)) h) h p2) dX12_canGo_97 (CKX12_isLock (by decide)) ⟨rfl, rfl⟩ lk_RX12_211 in_X12_isLock se_X12_isLock (by decide) rfl rfl rfl (Nat.le_of_ble_eq_true rfl) ?_
            intro r S' h' hq
            obtain ⟨rfl, hh, rfl, hb4⟩ := hq
            rw [hh]
            refine j_if_eq (tgt := 107) C dX12_canGo_100 (by decide) (fun c5 => ?_) (fun c5 => ?_)
            · have hP := hP.1 c5
              rw [if_pos c5] at hR
              exact j_vl (tX12_canGo_107 C h a0 (FX12_local a0 (h 3 (((24 * a0) + (h 12 (a0.toNatClampNeg))).toNatClampNeg)) h) hP hR) ⟨rfl, rfl, rfl, trivial⟩
            · have hP := hP.2 c5
              rw [if_neg c5] at hR
              refine j_iconst (v := 1) C dX12_canGo_103 (by decide) ?_
              refine j_goto (tgt := 108) C dX12_canGo_104 (by decide) ?_
              exact j_vl (tX12_canGo_108 C h a0 (FX12_local a0 (h 3 (((24 * a0) + (h 12 (a0.toNatClampNeg))).toNatClampNeg)) h) 1 hP hR) ⟨rfl, rfl, rfl, trivial⟩
        · have hP := hP.2 c3
          rw [if_neg c3] at hR
          refine j_aload_n C dX12_canGo_40 rfl rfl ?_
          refine gM_59 C dX12_canGo_41 ?_
          refine j_aload_n C dX12_canGo_44 rfl rfl ?_
          refine gM_53 C dX12_canGo_45 ?_
          refine j_iload_n C dX12_canGo_48 rfl rfl ?_
          obtain ⟨p5, hP⟩ := hP
          refine j_iald (k := 15) (v := (h 15 (a0.toNatClampNeg))) C dX12_canGo_49 (by decide) rfl p5 rfl ?_
          obtain ⟨p7, hP⟩ := hP
          refine j_iald (k := 17) (v := (h 17 ((h 15 (a0.toNatClampNeg)).toNatClampNeg))) C dX12_canGo_50 (by decide) rfl p7 rfl ?_
          refine j_if_ge (tgt := 58) C dX12_canGo_51 (by decide) (fun c4 => ?_) (fun c4 => ?_)
          · have hP := hP.1 c4
            rw [if_pos c4] at hR
            refine j_iconst (v := 0) C dX12_canGo_58 (by decide) ?_
            exact hR bo_0 _ _ dX12_canGo_59
          · have hP := hP.2 c4
            rw [if_neg c4] at hR
            refine j_iconst (v := 1) C dX12_canGo_54 (by decide) ?_
            refine j_goto (tgt := 59) C dX12_canGo_55 (by decide) ?_
            exact hR bo_1 _ _ dX12_canGo_59
      · have hP := hP.2 c2
        rw [if_neg c2] at hR
        refine j_iconst (v := 0) C dX12_canGo_29 (by decide) ?_
        exact hR bo_0 _ _ dX12_canGo_30
theorem MX12_canGo {l0 : Launch} {Y : fj_Y} {ad : Nat → Nat} (a0 : Int32) (h : ph_H) (hP : PX12_canGo a0 h) : MI l0 yX12_canGo cX12_canGo 5 (some .boolean) ({ frames := 2, cells := 0, slots := 0, locals := 43 } : Room) Y ad 50 SM h [.ref (ad 0), .int a0] (fun r S' h' => S' = SM ∧ h' = h ∧ r = FX12_canGo a0 h ∧ bo r) := met_i (by decide) (Nat.le_of_ble_eq_true rfl) (fun _ _ _ q => bo_n q.2.2.2) (fun X C K => j_vl (tX12_canGo C a0 h hP (fun b pc lv hd => K _ _ _ ⟨rfl, rfl, rfl, b⟩ pc lv hd)) ⟨rfl, rfl, trivial⟩)
