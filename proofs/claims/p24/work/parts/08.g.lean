section MG_08_m00
-- X12_isIn
def FX12_isIn (a0 : Int64) (a1 : Int64) (a2 : Int64) : Int32 := if (lg_cmp a0 a1) < 0 then (0) else (if 0 < (lg_cmp a0 a2) then (0) else (1))
def PX12_isIn (a0 : Int64) (a1 : Int64) (a2 : Int64) : Prop := ((lg_cmp a0 a1) < 0 → (True)) ∧ (¬ (lg_cmp a0 a1) < 0 → ((0 < (lg_cmp a0 a2) → (True)) ∧ (¬ 0 < (lg_cmp a0 a2) → (True))))
set_option maxRecDepth 100000 in
set_option maxHeartbeats 4000000 in
theorem tX12_isIn {X : fj_X} {Y : fj_Y} {l0 : Launch} {ad : Nat → Nat} (C : FC X Y l0 cX12_isIn 6 RX12 ({ frames := 0, cells := 0, slots := 0, locals := 0 } : Room) 0 0 (some .boolean)) (a0 : Int64) (a1 : Int64) (a2 : Int64) (h : ph_H) (hP : PX12_isIn a0 a1 a2) (hR : RETq X Y ad 50 SM h cX12_isIn (FX12_isIn a0 a1 a2)) : FJ X Y ad 50 SM h 0 [(0, .long a0), (2, .long a1), (4, .long a2)] [] := by
  unfold PX12_isIn at hP
  unfold FX12_isIn at hR
  refine j_lload_n C dX12_isIn_0 rfl rfl ?_
  refine j_lload_n C dX12_isIn_1 rfl rfl ?_
  refine j_lcmp C dX12_isIn_2 ?_
  refine j_if_lt (tgt := 17) C dX12_isIn_3 (by decide) (fun c0 => ?_) (fun c0 => ?_)
  · have hP := hP.1 c0
    rw [if_pos c0] at hR
    refine j_iconst (v := 0) C dX12_isIn_17 (by decide) ?_
    exact hR bo_0 _ _ dX12_isIn_18
  · have hP := hP.2 c0
    rw [if_neg c0] at hR
    refine j_lload_n C dX12_isIn_6 rfl rfl ?_
    refine j_lload C dX12_isIn_7 rfl ?_
    refine j_lcmp C dX12_isIn_9 ?_
    refine j_if_gt (tgt := 17) C dX12_isIn_10 (by decide) (fun c1 => ?_) (fun c1 => ?_)
    · have hP := hP.1 c1
      rw [if_pos c1] at hR
      refine j_iconst (v := 0) C dX12_isIn_17 (by decide) ?_
      exact hR bo_0 _ _ dX12_isIn_18
    · have hP := hP.2 c1
      rw [if_neg c1] at hR
      refine j_iconst (v := 1) C dX12_isIn_13 (by decide) ?_
      refine j_goto (tgt := 18) C dX12_isIn_14 (by decide) ?_
      exact hR bo_1 _ _ dX12_isIn_18
theorem MX12_isIn {l0 : Launch} {Y : fj_Y} {ad : Nat → Nat} (a0 : Int64) (a1 : Int64) (a2 : Int64) (h : ph_H) (hP : PX12_isIn a0 a1 a2) : MI l0 yX12_isIn cX12_isIn 6 (some .boolean) ({ frames := 0, cells := 0, slots := 0, locals := 0 } : Room) Y ad 50 SM h [.long a0, .long a1, .long a2] (fun r S' h' => S' = SM ∧ h' = h ∧ r = FX12_isIn a0 a1 a2 ∧ bo r) := met_i (by decide) (Nat.le_of_ble_eq_true rfl) (fun _ _ _ q => bo_n q.2.2.2) (fun X C K => j_vl (tX12_isIn C a0 a1 a2 h hP (fun b pc lv hd => K _ _ _ ⟨rfl, rfl, rfl, b⟩ pc lv hd)) ⟨rfl, rfl, rfl, trivial⟩)

-- X12_modulo
def FX12_modulo (a0 : Int32) (a1 : Int32) : Int32 := (((a0 - a0 / a1 * a1) + a1) - ((a0 - a0 / a1 * a1) + a1) / a1 * a1)
def PX12_modulo (a0 : Int32) (a1 : Int32) : Prop := ¬ a1 = 0 ∧ (¬ a1 = 0 ∧ (True))
set_option maxRecDepth 100000 in
set_option maxHeartbeats 4000000 in
theorem tX12_modulo {X : fj_X} {Y : fj_Y} {l0 : Launch} {ad : Nat → Nat} (C : FC X Y l0 cX12_modulo 2 RX12 ({ frames := 0, cells := 0, slots := 0, locals := 0 } : Room) 0 0 (some .int)) (a0 : Int32) (a1 : Int32) (h : ph_H) (hP : PX12_modulo a0 a1) (hR : RETp X Y ad 50 SM h cX12_modulo (FX12_modulo a0 a1)) : FJ X Y ad 50 SM h 0 [(0, .int a0), (1, .int a1)] [] := by
  unfold PX12_modulo at hP
  unfold FX12_modulo at hR
  refine j_iload_n C dX12_modulo_0 rfl rfl ?_
  refine j_iload_n C dX12_modulo_1 rfl rfl ?_
  obtain ⟨p2, hP⟩ := hP
  refine j_irem C dX12_modulo_2 p2 ?_
  refine j_iload_n C dX12_modulo_3 rfl rfl ?_
  refine j_iadd C dX12_modulo_4 ?_
  refine j_iload_n C dX12_modulo_5 rfl rfl ?_
  obtain ⟨p7, hP⟩ := hP
  refine j_irem C dX12_modulo_6 p7 ?_
  exact hR _ _ dX12_modulo_7
theorem MX12_modulo {l0 : Launch} {Y : fj_Y} {ad : Nat → Nat} (a0 : Int32) (a1 : Int32) (h : ph_H) (hP : PX12_modulo a0 a1) : MI l0 yX12_modulo cX12_modulo 2 (some .int) ({ frames := 0, cells := 0, slots := 0, locals := 0 } : Room) Y ad 50 SM h [.int a0, .int a1] (fun r S' h' => S' = SM ∧ h' = h ∧ r = FX12_modulo a0 a1) := met_i (by decide) (Nat.le_of_ble_eq_true rfl) (fun _ _ _ _ => rfl) (fun X C K => j_vl (tX12_modulo C a0 a1 h hP (fun pc lv hd => K _ _ _ ⟨rfl, rfl, rfl⟩ pc lv hd)) ⟨rfl, rfl, trivial⟩)

-- X12_code
def FX12_code (a0 : Int32) (a1 : Int32) (a2 : Int32) (a3 : Int32) (a4 : Int32) (h : ph_H) : Int32 × ph_H := if (FX12_isIn a0.toInt64 0 3) = 0 then (((-1), (hs h 0 0 0))) else (if (FX12_isIn a1.toInt64 0 19) = 0 then (((-1), (hs h 0 0 0))) else (if (h 1 (a0.toNatClampNeg)) = 24 then (((-2), (hs h 0 0 0))) else (((((hs (hs (hs (hs (hs (hs h 0 0 0) 2 ((24 * a0) + (h 1 (a0.toNatClampNeg))).toNatClampNeg a1) 3 ((24 * a0) + (h 1 (a0.toNatClampNeg))).toNatClampNeg a2) 4 ((24 * a0) + (h 1 (a0.toNatClampNeg))).toNatClampNeg a3) 5 ((24 * a0) + (h 1 (a0.toNatClampNeg))).toNatClampNeg a4) 1 a0.toNatClampNeg ((h 1 (a0.toNatClampNeg)) + 1)) 1 (a0.toNatClampNeg)) - 1), (hs (hs (hs (hs (hs (hs h 0 0 0) 2 ((24 * a0) + (h 1 (a0.toNatClampNeg))).toNatClampNeg a1) 3 ((24 * a0) + (h 1 (a0.toNatClampNeg))).toNatClampNeg a2) 4 ((24 * a0) + (h 1 (a0.toNatClampNeg))).toNatClampNeg a3) 5 ((24 * a0) + (h 1 (a0.toNatClampNeg))).toNatClampNeg a4) 1 a0.toNatClampNeg ((h 1 (a0.toNatClampNeg)) + 1))))))
def PX12_code (a0 : Int32) (a1 : Int32) (a2 : Int32) (a3 : Int32) (a4 : Int32) (h : ph_H) : Prop := (PX12_isIn a0.toInt64 0 3) ∧ (((FX12_isIn a0.toInt64 0 3) = 0 → (True)) ∧ (¬ (FX12_isIn a0.toInt64 0 3) = 0 → ((PX12_isIn a1.toInt64 0 19) ∧ (((FX12_isIn a1.toInt64 0 19) = 0 → (True)) ∧ (¬ (FX12_isIn a1.toInt64 0 19) = 0 → (vp_in a0 4 ∧ (((h 1 (a0.toNatClampNeg)) = 24 → (True)) ∧ (¬ (h 1 (a0.toNatClampNeg)) = 24 → (vp_in a0 4 ∧ (vp_in ((24 * a0) + (h 1 (a0.toNatClampNeg))) 96 ∧ (vp_in ((24 * a0) + (h 1 (a0.toNatClampNeg))) 96 ∧ (vp_in ((24 * a0) + (h 1 (a0.toNatClampNeg))) 96 ∧ (vp_in ((24 * a0) + (h 1 (a0.toNatClampNeg))) 96 ∧ (vp_in a0 4 ∧ (vp_in a0 4 ∧ (vp_in a0 4 ∧ (True)))))))))))))))))
set_option maxRecDepth 100000 in
set_option maxHeartbeats 4000000 in
theorem tX12_code {X : fj_X} {Y : fj_Y} {l0 : Launch} {ad : Nat → Nat} (C : FC X Y l0 cX12_code 7 RX12 ({ frames := 1, cells := 0, slots := 0, locals := 25 } : Room) 0 0 (some .int)) (a0 : Int32) (a1 : Int32) (a2 : Int32) (a3 : Int32) (a4 : Int32) (h : ph_H) (hP : PX12_code a0 a1 a2 a3 a4 h) (hR : RETi X Y ad 50 SM cX12_code (FX12_code a0 a1 a2 a3 a4 h)) : FJ X Y ad 50 SM h 0 [(0, .ref (ad 0)), (1, .int a0), (2, .int a1), (3, .int a2), (4, .int a3), (5, .int a4)] [] := by
  unfold PX12_code at hP
  unfold FX12_code at hR
  refine j_aload_n C dX12_code_0 rfl rfl ?_
  refine j_iconst (v := 0) C dX12_code_1 (by decide) ?_
  refine pM_164 C dX12_code_2 ?_
  refine j_iload_n C dX12_code_5 rfl rfl ?_
  refine j_i2l C dX12_code_6 ?_
  refine j_lconst (v := 0) C dX12_code_7 (by decide) ?_
  refine j_ldc2 (v := 3) C dX12_code_8 kl_RX12_167 ?_
  obtain ⟨p7, hP⟩ := hP
  refine j_callS C (MX12_isIn a0.toInt64 0 3 (hs h 0 0 0) p7) dX12_code_11 (CKX12_isIn (by decide)) ⟨rfl, rfl⟩ lk_RX12_169 st_X12_isIn rfl (Nat.le_of_ble_eq_true rfl) ?_
  intro r S' h' hq
  obtain ⟨rfl, hh, rfl, hb9⟩ := hq
  rw [hh]
  refine j_if_eq (tgt := 29) C dX12_code_14 (by decide) (fun c0 => ?_) (fun c0 => ?_)
  · have hP := hP.1 c0
    rw [if_pos c0] at hR
    refine j_iconst (v := (-1)) C dX12_code_29 (by decide) ?_
    exact hR _ _ dX12_code_30
  · have hP := hP.2 c0
    rw [if_neg c0] at hR
    refine j_iload_n C dX12_code_17 rfl rfl ?_
    refine j_i2l C dX12_code_18 ?_
    refine j_lconst (v := 0) C dX12_code_19 (by decide) ?_
    refine j_ldc2 (v := 19) C dX12_code_20 kl_RX12_173 ?_
    obtain ⟨p4, hP⟩ := hP
    refine j_callS C (MX12_isIn a1.toInt64 0 19 (hs h 0 0 0) p4) dX12_code_23 (CKX12_isIn (by decide)) ⟨rfl, rfl⟩ lk_RX12_169 st_X12_isIn rfl (Nat.le_of_ble_eq_true rfl) ?_
    intro r S' h' hq
    obtain ⟨rfl, hh, rfl, hb6⟩ := hq
    rw [hh]
    refine j_if_ne (tgt := 31) C dX12_code_26 (by decide) (fun c1 => ?_) (fun c1 => ?_)
    · have hP := hP.2 c1
      rw [if_neg c1] at hR
      refine j_aload_n C dX12_code_31 rfl rfl ?_
      refine gM_7 C dX12_code_32 ?_
      refine j_iload_n C dX12_code_35 rfl rfl ?_
      obtain ⟨p3, hP⟩ := hP
      refine j_iald (k := 1) (v := (h 1 (a0.toNatClampNeg))) C dX12_code_36 (by decide) rfl p3 (hz_k (by decide)) ?_
      refine j_bipush (v := 24) C dX12_code_37 (by decide) ?_
      refine j_icmp_ne (tgt := 45) C dX12_code_39 (by decide) (fun c2 => ?_) (fun c2 => ?_)
      · have hP := hP.2 c2
        rw [if_neg c2] at hR
        refine j_bipush (v := 24) C dX12_code_45 (by decide) ?_
        refine j_iload_n C dX12_code_47 rfl rfl ?_
        refine j_imul C dX12_code_48 ?_
        refine j_aload_n C dX12_code_49 rfl rfl ?_
        refine gM_7 C dX12_code_50 ?_
        refine j_iload_n C dX12_code_53 rfl rfl ?_
        obtain ⟨p6, hP⟩ := hP
        refine j_iald (k := 1) (v := (h 1 (a0.toNatClampNeg))) C dX12_code_54 (by decide) rfl p6 (hz_k (by decide)) ?_
        refine j_iadd C dX12_code_55 ?_
        refine j_istore C dX12_code_56 (by decide) rfl ?_
        refine j_aload_n C dX12_code_58 rfl rfl ?_
        refine gM_13 C dX12_code_59 ?_
        refine j_iload C dX12_code_62 rfl ?_
        refine j_iload_n C dX12_code_64 rfl rfl ?_
        obtain ⟨p14, hP⟩ := hP
        refine j_iast (k := 2) C dX12_code_65 (by decide) rfl p14 ?_
        refine j_aload_n C dX12_code_66 rfl rfl ?_
        refine gM_16 C dX12_code_67 ?_
        refine j_iload C dX12_code_70 rfl ?_
        refine j_iload_n C dX12_code_72 rfl rfl ?_
        obtain ⟨p20, hP⟩ := hP
        refine j_iast (k := 3) C dX12_code_73 (by decide) rfl p20 ?_
        refine j_aload_n C dX12_code_74 rfl rfl ?_
        refine gM_19 C dX12_code_75 ?_
        refine j_iload C dX12_code_78 rfl ?_
        refine j_iload C dX12_code_80 rfl ?_
        obtain ⟨p26, hP⟩ := hP
        refine j_iast (k := 4) C dX12_code_82 (by decide) rfl p26 ?_
        refine j_aload_n C dX12_code_83 rfl rfl ?_
        refine gM_22 C dX12_code_84 ?_
        refine j_iload C dX12_code_87 rfl ?_
        refine j_iload C dX12_code_89 rfl ?_
        obtain ⟨p32, hP⟩ := hP
        refine j_iast (k := 5) C dX12_code_91 (by decide) rfl p32 ?_
        refine j_aload_n C dX12_code_92 rfl rfl ?_
        refine gM_7 C dX12_code_93 ?_
        refine j_iload_n C dX12_code_96 rfl rfl ?_
        refine j_dup2 C dX12_code_97 rfl rfl ?_
        obtain ⟨p38, hP⟩ := hP
        refine j_iald (k := 1) (v := (h 1 (a0.toNatClampNeg))) C dX12_code_98 (by decide) rfl p38 ((hz_k (by decide)).trans ((hz_k (by decide)).trans ((hz_k (by decide)).trans ((hz_k (by decide)).trans (hz_k (by decide)))))) ?_
        refine j_iconst (v := 1) C dX12_code_99 (by decide) ?_
        refine j_iadd C dX12_code_100 ?_
        obtain ⟨p42, hP⟩ := hP
        refine j_iast (k := 1) C dX12_code_101 (by decide) rfl p42 ?_
        refine j_aload_n C dX12_code_102 rfl rfl ?_
        refine gM_7 C dX12_code_103 ?_
        refine j_iload_n C dX12_code_106 rfl rfl ?_
        obtain ⟨p47, hP⟩ := hP
        refine j_iald (k := 1) (v := ((hs (hs (hs (hs (hs (hs h 0 0 0) 2 ((24 * a0) + (h 1 (a0.toNatClampNeg))).toNatClampNeg a1) 3 ((24 * a0) + (h 1 (a0.toNatClampNeg))).toNatClampNeg a2) 4 ((24 * a0) + (h 1 (a0.toNatClampNeg))).toNatClampNeg a3) 5 ((24 * a0) + (h 1 (a0.toNatClampNeg))).toNatClampNeg a4) 1 a0.toNatClampNeg ((h 1 (a0.toNatClampNeg)) + 1)) 1 (a0.toNatClampNeg))) C dX12_code_107 (by decide) rfl p47 rfl ?_
        refine j_iconst (v := 1) C dX12_code_108 (by decide) ?_
        refine j_isub C dX12_code_109 ?_
        exact hR _ _ dX12_code_110
      · have hP := hP.1 c2
        rw [if_pos c2] at hR
        refine j_bipush (v := (-2)) C dX12_code_42 (by decide) ?_
        exact hR _ _ dX12_code_44
    · have hP := hP.1 c1
      rw [if_pos c1] at hR
      refine j_iconst (v := (-1)) C dX12_code_29 (by decide) ?_
      exact hR _ _ dX12_code_30
theorem MX12_code {l0 : Launch} {Y : fj_Y} {ad : Nat → Nat} (a0 : Int32) (a1 : Int32) (a2 : Int32) (a3 : Int32) (a4 : Int32) (h : ph_H) (hP : PX12_code a0 a1 a2 a3 a4 h) : MI l0 yX12_code cX12_code 7 (some .int) ({ frames := 1, cells := 0, slots := 0, locals := 25 } : Room) Y ad 50 SM h [.ref (ad 0), .int a0, .int a1, .int a2, .int a3, .int a4] (fun r S' h' => S' = SM ∧ h' = (FX12_code a0 a1 a2 a3 a4 h).2 ∧ r = (FX12_code a0 a1 a2 a3 a4 h).1) := met_i (by decide) (Nat.le_of_ble_eq_true rfl) (fun _ _ _ _ => rfl) (fun X C K => j_vl (tX12_code C a0 a1 a2 a3 a4 h hP (fun pc lv hd => K _ _ _ ⟨rfl, rfl, rfl⟩ pc lv hd)) ⟨rfl, rfl, rfl, rfl, rfl, rfl, trivial⟩)

-- X12_clear
def FX12_clear (a0 : Int32) (h : ph_H) : Int32 × ph_H := if (FX12_isIn a0.toInt64 0 3) = 0 then (((-1), (hs h 0 0 0))) else (((h 1 (a0.toNatClampNeg)), (hs (hs h 0 0 0) 1 a0.toNatClampNeg 0)))
def PX12_clear (a0 : Int32) (h : ph_H) : Prop := (PX12_isIn a0.toInt64 0 3) ∧ (((FX12_isIn a0.toInt64 0 3) = 0 → (True)) ∧ (¬ (FX12_isIn a0.toInt64 0 3) = 0 → (vp_in a0 4 ∧ (vp_in a0 4 ∧ (True)))))
set_option maxRecDepth 100000 in
set_option maxHeartbeats 4000000 in
theorem tX12_clear {X : fj_X} {Y : fj_Y} {l0 : Launch} {ad : Nat → Nat} (C : FC X Y l0 cX12_clear 3 RX12 ({ frames := 1, cells := 0, slots := 0, locals := 25 } : Room) 0 0 (some .int)) (a0 : Int32) (h : ph_H) (hP : PX12_clear a0 h) (hR : RETi X Y ad 50 SM cX12_clear (FX12_clear a0 h)) : FJ X Y ad 50 SM h 0 [(0, .ref (ad 0)), (1, .int a0)] [] := by
  unfold PX12_clear at hP
  unfold FX12_clear at hR
  refine j_aload_n C dX12_clear_0 rfl rfl ?_
  refine j_iconst (v := 0) C dX12_clear_1 (by decide) ?_
  refine pM_164 C dX12_clear_2 ?_
  refine j_iload_n C dX12_clear_5 rfl rfl ?_
  refine j_i2l C dX12_clear_6 ?_
  refine j_lconst (v := 0) C dX12_clear_7 (by decide) ?_
  refine j_ldc2 (v := 3) C dX12_clear_8 kl_RX12_167 ?_
  obtain ⟨p7, hP⟩ := hP
  refine j_callS C (MX12_isIn a0.toInt64 0 3 (hs h 0 0 0) p7) dX12_clear_11 (CKX12_isIn (by decide)) ⟨rfl, rfl⟩ lk_RX12_169 st_X12_isIn rfl (Nat.le_of_ble_eq_true rfl) ?_
  intro r S' h' hq
  obtain ⟨rfl, hh, rfl, hb9⟩ := hq
  rw [hh]
  refine j_if_ne (tgt := 19) C dX12_clear_14 (by decide) (fun c0 => ?_) (fun c0 => ?_)
  · have hP := hP.2 c0
    rw [if_neg c0] at hR
    refine j_aload_n C dX12_clear_19 rfl rfl ?_
    refine gM_7 C dX12_clear_20 ?_
    refine j_iload_n C dX12_clear_23 rfl rfl ?_
    obtain ⟨p3, hP⟩ := hP
    refine j_iald (k := 1) (v := (h 1 (a0.toNatClampNeg))) C dX12_clear_24 (by decide) rfl p3 (hz_k (by decide)) ?_
    refine j_istore_n C dX12_clear_25 rfl (by decide) rfl ?_
    refine j_aload_n C dX12_clear_26 rfl rfl ?_
    refine gM_7 C dX12_clear_27 ?_
    refine j_iload_n C dX12_clear_30 rfl rfl ?_
    refine j_iconst (v := 0) C dX12_clear_31 (by decide) ?_
    obtain ⟨p10, hP⟩ := hP
    refine j_iast (k := 1) C dX12_clear_32 (by decide) rfl p10 ?_
    refine j_iload_n C dX12_clear_33 rfl rfl ?_
    exact hR _ _ dX12_clear_34
  · have hP := hP.1 c0
    rw [if_pos c0] at hR
    refine j_iconst (v := (-1)) C dX12_clear_17 (by decide) ?_
    exact hR _ _ dX12_clear_18
theorem MX12_clear {l0 : Launch} {Y : fj_Y} {ad : Nat → Nat} (a0 : Int32) (h : ph_H) (hP : PX12_clear a0 h) : MI l0 yX12_clear cX12_clear 3 (some .int) ({ frames := 1, cells := 0, slots := 0, locals := 25 } : Room) Y ad 50 SM h [.ref (ad 0), .int a0] (fun r S' h' => S' = SM ∧ h' = (FX12_clear a0 h).2 ∧ r = (FX12_clear a0 h).1) := met_i (by decide) (Nat.le_of_ble_eq_true rfl) (fun _ _ _ _ => rfl) (fun X C K => j_vl (tX12_clear C a0 h hP (fun pc lv hd => K _ _ _ ⟨rfl, rfl, rfl⟩ pc lv hd)) ⟨rfl, rfl, trivial⟩)

-- X12_cell
def FX12_cell (a0 : Int32) (a1 : Int32) (h : ph_H) : Int32 × ph_H := if (FX12_isIn a0.toInt64 0 11) = 0 then (((-1), (hs h 0 0 0))) else ((0, (hs (hs h 0 0 0) 6 a0.toNatClampNeg a1)))
def PX12_cell (a0 : Int32) (a1 : Int32) (h : ph_H) : Prop := (PX12_isIn a0.toInt64 0 11) ∧ (((FX12_isIn a0.toInt64 0 11) = 0 → (True)) ∧ (¬ (FX12_isIn a0.toInt64 0 11) = 0 → (vp_in a0 12 ∧ (True))))
set_option maxRecDepth 100000 in
set_option maxHeartbeats 4000000 in
theorem tX12_cell {X : fj_X} {Y : fj_Y} {l0 : Launch} {ad : Nat → Nat} (C : FC X Y l0 cX12_cell 3 RX12 ({ frames := 1, cells := 0, slots := 0, locals := 25 } : Room) 0 0 (some .int)) (a0 : Int32) (a1 : Int32) (h : ph_H) (hP : PX12_cell a0 a1 h) (hR : RETi X Y ad 50 SM cX12_cell (FX12_cell a0 a1 h)) : FJ X Y ad 50 SM h 0 [(0, .ref (ad 0)), (1, .int a0), (2, .int a1)] [] := by
  unfold PX12_cell at hP
  unfold FX12_cell at hR
  refine j_aload_n C dX12_cell_0 rfl rfl ?_
  refine j_iconst (v := 0) C dX12_cell_1 (by decide) ?_
  refine pM_164 C dX12_cell_2 ?_
  refine j_iload_n C dX12_cell_5 rfl rfl ?_
  refine j_i2l C dX12_cell_6 ?_
  refine j_lconst (v := 0) C dX12_cell_7 (by decide) ?_
  refine j_ldc2 (v := 11) C dX12_cell_8 kl_RX12_175 ?_
  obtain ⟨p7, hP⟩ := hP
  refine j_callS C (MX12_isIn a0.toInt64 0 11 (hs h 0 0 0) p7) dX12_cell_11 (CKX12_isIn (by decide)) ⟨rfl, rfl⟩ lk_RX12_169 st_X12_isIn rfl (Nat.le_of_ble_eq_true rfl) ?_
  intro r S' h' hq
  obtain ⟨rfl, hh, rfl, hb9⟩ := hq
  rw [hh]
  refine j_if_ne (tgt := 19) C dX12_cell_14 (by decide) (fun c0 => ?_) (fun c0 => ?_)
  · have hP := hP.2 c0
    rw [if_neg c0] at hR
    refine j_aload_n C dX12_cell_19 rfl rfl ?_
    refine gM_25 C dX12_cell_20 ?_
    refine j_iload_n C dX12_cell_23 rfl rfl ?_
    refine j_iload_n C dX12_cell_24 rfl rfl ?_
    obtain ⟨p4, hP⟩ := hP
    refine j_iast (k := 6) C dX12_cell_25 (by decide) rfl p4 ?_
    refine j_iconst (v := 0) C dX12_cell_26 (by decide) ?_
    exact hR _ _ dX12_cell_27
  · have hP := hP.1 c0
    rw [if_pos c0] at hR
    refine j_iconst (v := (-1)) C dX12_cell_17 (by decide) ?_
    exact hR _ _ dX12_cell_18
theorem MX12_cell {l0 : Launch} {Y : fj_Y} {ad : Nat → Nat} (a0 : Int32) (a1 : Int32) (h : ph_H) (hP : PX12_cell a0 a1 h) : MI l0 yX12_cell cX12_cell 3 (some .int) ({ frames := 1, cells := 0, slots := 0, locals := 25 } : Room) Y ad 50 SM h [.ref (ad 0), .int a0, .int a1] (fun r S' h' => S' = SM ∧ h' = (FX12_cell a0 a1 h).2 ∧ r = (FX12_cell a0 a1 h).1) := met_i (by decide) (Nat.le_of_ble_eq_true rfl) (fun _ _ _ _ => rfl) (fun X C K => j_vl (tX12_cell C a0 a1 h hP (fun pc lv hd => K _ _ _ ⟨rfl, rfl, rfl⟩ pc lv hd)) ⟨rfl, rfl, rfl, trivial⟩)

-- X12_input
def FX12_input (a0 : Int32) (h : ph_H) : Int32 × ph_H := if (h 0 7) = 30 then (((-2), (hs h 0 0 0))) else ((((h 0 7) + 1), (hs (hs (hs h 0 0 0) 7 (h 0 7).toNatClampNeg a0) 0 7 ((h 0 7) + 1))))
def PX12_input (a0 : Int32) (h : ph_H) : Prop := ((h 0 7) = 30 → (True)) ∧ (¬ (h 0 7) = 30 → (vp_in (h 0 7) 30 ∧ (True)))
set_option maxRecDepth 100000 in
set_option maxHeartbeats 4000000 in
theorem tX12_input {X : fj_X} {Y : fj_Y} {l0 : Launch} {ad : Nat → Nat} (C : FC X Y l0 cX12_input 2 RX12 ({ frames := 0, cells := 0, slots := 0, locals := 0 } : Room) 0 0 (some .int)) (a0 : Int32) (h : ph_H) (hP : PX12_input a0 h) (hR : RETi X Y ad 50 SM cX12_input (FX12_input a0 h)) : FJ X Y ad 50 SM h 0 [(0, .ref (ad 0)), (1, .int a0)] [] := by
  unfold PX12_input at hP
  unfold FX12_input at hR
  refine j_aload_n C dX12_input_0 rfl rfl ?_
  refine j_iconst (v := 0) C dX12_input_1 (by decide) ?_
  refine pM_164 C dX12_input_2 ?_
  refine j_aload_n C dX12_input_5 rfl rfl ?_
  refine gM_177 (v := (h 0 7)) C dX12_input_6 (hz_i (by decide)) ?_
  refine j_bipush (v := 30) C dX12_input_9 (by decide) ?_
  refine j_icmp_ne (tgt := 17) C dX12_input_11 (by decide) (fun c0 => ?_) (fun c0 => ?_)
  · have hP := hP.2 c0
    rw [if_neg c0] at hR
    refine j_aload_n C dX12_input_17 rfl rfl ?_
    refine gM_28 C dX12_input_18 ?_
    refine j_aload_n C dX12_input_21 rfl rfl ?_
    refine gM_177 (v := (h 0 7)) C dX12_input_22 (hz_i (by decide)) ?_
    refine j_iload_n C dX12_input_25 rfl rfl ?_
    obtain ⟨p5, hP⟩ := hP
    refine j_iast (k := 7) C dX12_input_26 (by decide) rfl p5 ?_
    refine j_aload_n C dX12_input_27 rfl rfl ?_
    refine j_dup C dX12_input_28 rfl ?_
    refine gM_177 (v := (h 0 7)) C dX12_input_29 ((hz_k (by decide)).trans (hz_i (by decide))) ?_
    refine j_iconst (v := 1) C dX12_input_32 (by decide) ?_
    refine j_iadd C dX12_input_33 ?_
    refine pM_177 C dX12_input_34 ?_
    refine j_aload_n C dX12_input_37 rfl rfl ?_
    refine gM_177 (v := ((h 0 7) + 1)) C dX12_input_38 (hz_e) ?_
    exact hR _ _ dX12_input_41
  · have hP := hP.1 c0
    rw [if_pos c0] at hR
    refine j_bipush (v := (-2)) C dX12_input_14 (by decide) ?_
    exact hR _ _ dX12_input_16
theorem MX12_input {l0 : Launch} {Y : fj_Y} {ad : Nat → Nat} (a0 : Int32) (h : ph_H) (hP : PX12_input a0 h) : MI l0 yX12_input cX12_input 2 (some .int) ({ frames := 0, cells := 0, slots := 0, locals := 0 } : Room) Y ad 50 SM h [.ref (ad 0), .int a0] (fun r S' h' => S' = SM ∧ h' = (FX12_input a0 h).2 ∧ r = (FX12_input a0 h).1) := met_i (by decide) (Nat.le_of_ble_eq_true rfl) (fun _ _ _ _ => rfl) (fun X C K => j_vl (tX12_input C a0 h hP (fun pc lv hd => K _ _ _ ⟨rfl, rfl, rfl⟩ pc lv hd)) ⟨rfl, rfl, trivial⟩)

-- X12_turn
def FX12_turn (a0 : Int32) (a1 : Int32) (h : ph_H) : Int32 × ph_H := if (FX12_isIn a0.toInt64 0 3) = 0 then (((-1), (hs h 0 0 0))) else (if (FX12_isIn a1.toInt64 1 100) = 0 then (((-1), (hs h 0 0 0))) else (if (h 0 9) = 40 then (((-2), (hs h 0 0 0))) else ((((h 0 9) + 1), (hs (hs (hs (hs h 0 0 0) 8 (h 0 9).toNatClampNeg a0) 9 (h 0 9).toNatClampNeg a1) 0 9 ((h 0 9) + 1))))))
def PX12_turn (a0 : Int32) (a1 : Int32) (h : ph_H) : Prop := (PX12_isIn a0.toInt64 0 3) ∧ (((FX12_isIn a0.toInt64 0 3) = 0 → (True)) ∧ (¬ (FX12_isIn a0.toInt64 0 3) = 0 → ((PX12_isIn a1.toInt64 1 100) ∧ (((FX12_isIn a1.toInt64 1 100) = 0 → (True)) ∧ (¬ (FX12_isIn a1.toInt64 1 100) = 0 → (((h 0 9) = 40 → (True)) ∧ (¬ (h 0 9) = 40 → (vp_in (h 0 9) 40 ∧ (vp_in (h 0 9) 40 ∧ (True))))))))))
set_option maxRecDepth 100000 in
set_option maxHeartbeats 4000000 in
theorem tX12_turn {X : fj_X} {Y : fj_Y} {l0 : Launch} {ad : Nat → Nat} (C : FC X Y l0 cX12_turn 3 RX12 ({ frames := 1, cells := 0, slots := 0, locals := 25 } : Room) 0 0 (some .int)) (a0 : Int32) (a1 : Int32) (h : ph_H) (hP : PX12_turn a0 a1 h) (hR : RETi X Y ad 50 SM cX12_turn (FX12_turn a0 a1 h)) : FJ X Y ad 50 SM h 0 [(0, .ref (ad 0)), (1, .int a0), (2, .int a1)] [] := by
  unfold PX12_turn at hP
  unfold FX12_turn at hR
  refine j_aload_n C dX12_turn_0 rfl rfl ?_
  refine j_iconst (v := 0) C dX12_turn_1 (by decide) ?_
  refine pM_164 C dX12_turn_2 ?_
  refine j_iload_n C dX12_turn_5 rfl rfl ?_
  refine j_i2l C dX12_turn_6 ?_
  refine j_lconst (v := 0) C dX12_turn_7 (by decide) ?_
  refine j_ldc2 (v := 3) C dX12_turn_8 kl_RX12_167 ?_
  obtain ⟨p7, hP⟩ := hP
  refine j_callS C (MX12_isIn a0.toInt64 0 3 (hs h 0 0 0) p7) dX12_turn_11 (CKX12_isIn (by decide)) ⟨rfl, rfl⟩ lk_RX12_169 st_X12_isIn rfl (Nat.le_of_ble_eq_true rfl) ?_
  intro r S' h' hq
  obtain ⟨rfl, hh, rfl, hb9⟩ := hq
  rw [hh]
  refine j_if_eq (tgt := 29) C dX12_turn_14 (by decide) (fun c0 => ?_) (fun c0 => ?_)
  · have hP := hP.1 c0
    rw [if_pos c0] at hR
    refine j_iconst (v := (-1)) C dX12_turn_29 (by decide) ?_
    exact hR _ _ dX12_turn_30
  · have hP := hP.2 c0
    rw [if_neg c0] at hR
    refine j_iload_n C dX12_turn_17 rfl rfl ?_
    refine j_i2l C dX12_turn_18 ?_
    refine j_lconst (v := 1) C dX12_turn_19 (by decide) ?_
    refine j_ldc2 (v := 100) C dX12_turn_20 kl_RX12_180 ?_
    obtain ⟨p4, hP⟩ := hP
    refine j_callS C (MX12_isIn a1.toInt64 1 100 (hs h 0 0 0) p4) dX12_turn_23 (CKX12_isIn (by decide)) ⟨rfl, rfl⟩ lk_RX12_169 st_X12_isIn rfl (Nat.le_of_ble_eq_true rfl) ?_
    intro r S' h' hq
    obtain ⟨rfl, hh, rfl, hb6⟩ := hq
    rw [hh]
    refine j_if_ne (tgt := 31) C dX12_turn_26 (by decide) (fun c1 => ?_) (fun c1 => ?_)
    · have hP := hP.2 c1
      rw [if_neg c1] at hR
      refine j_aload_n C dX12_turn_31 rfl rfl ?_
      refine gM_182 (v := (h 0 9)) C dX12_turn_32 (hz_i (by decide)) ?_
      refine j_bipush (v := 40) C dX12_turn_35 (by decide) ?_
      refine j_icmp_ne (tgt := 43) C dX12_turn_37 (by decide) (fun c2 => ?_) (fun c2 => ?_)
      · have hP := hP.2 c2
        rw [if_neg c2] at hR
        refine j_aload_n C dX12_turn_43 rfl rfl ?_
        refine gM_31 C dX12_turn_44 ?_
        refine j_aload_n C dX12_turn_47 rfl rfl ?_
        refine gM_182 (v := (h 0 9)) C dX12_turn_48 (hz_i (by decide)) ?_
        refine j_iload_n C dX12_turn_51 rfl rfl ?_
        obtain ⟨p5, hP⟩ := hP
        refine j_iast (k := 8) C dX12_turn_52 (by decide) rfl p5 ?_
        refine j_aload_n C dX12_turn_53 rfl rfl ?_
        refine gM_34 C dX12_turn_54 ?_
        refine j_aload_n C dX12_turn_57 rfl rfl ?_
        refine gM_182 (v := (h 0 9)) C dX12_turn_58 ((hz_k (by decide)).trans (hz_i (by decide))) ?_
        refine j_iload_n C dX12_turn_61 rfl rfl ?_
        obtain ⟨p12, hP⟩ := hP
        refine j_iast (k := 9) C dX12_turn_62 (by decide) rfl p12 ?_
        refine j_aload_n C dX12_turn_63 rfl rfl ?_
        refine j_dup C dX12_turn_64 rfl ?_
        refine gM_182 (v := (h 0 9)) C dX12_turn_65 ((hz_k (by decide)).trans ((hz_k (by decide)).trans (hz_i (by decide)))) ?_
        refine j_iconst (v := 1) C dX12_turn_68 (by decide) ?_
        refine j_iadd C dX12_turn_69 ?_
        refine pM_182 C dX12_turn_70 ?_
        refine j_aload_n C dX12_turn_73 rfl rfl ?_
        refine gM_182 (v := ((h 0 9) + 1)) C dX12_turn_74 (hz_e) ?_
        exact hR _ _ dX12_turn_77
      · have hP := hP.1 c2
        rw [if_pos c2] at hR
        refine j_bipush (v := (-2)) C dX12_turn_40 (by decide) ?_
        exact hR _ _ dX12_turn_42
    · have hP := hP.1 c1
      rw [if_pos c1] at hR
      refine j_iconst (v := (-1)) C dX12_turn_29 (by decide) ?_
      exact hR _ _ dX12_turn_30
theorem MX12_turn {l0 : Launch} {Y : fj_Y} {ad : Nat → Nat} (a0 : Int32) (a1 : Int32) (h : ph_H) (hP : PX12_turn a0 a1 h) : MI l0 yX12_turn cX12_turn 3 (some .int) ({ frames := 1, cells := 0, slots := 0, locals := 25 } : Room) Y ad 50 SM h [.ref (ad 0), .int a0, .int a1] (fun r S' h' => S' = SM ∧ h' = (FX12_turn a0 a1 h).2 ∧ r = (FX12_turn a0 a1 h).1) := met_i (by decide) (Nat.le_of_ble_eq_true rfl) (fun _ _ _ _ => rfl) (fun X C K => j_vl (tX12_turn C a0 a1 h hP (fun pc lv hd => K _ _ _ ⟨rfl, rfl, rfl⟩ pc lv hd)) ⟨rfl, rfl, rfl, trivial⟩)

-- X12_freely
def FX12_freely (h : ph_H) : Int32 × ph_H := ((h 0 9), (hs (hs h 0 0 0) 0 9 0))
def PX12_freely (h : ph_H) : Prop := True
set_option maxRecDepth 100000 in
set_option maxHeartbeats 4000000 in
theorem tX12_freely {X : fj_X} {Y : fj_Y} {l0 : Launch} {ad : Nat → Nat} (C : FC X Y l0 cX12_freely 2 RX12 ({ frames := 0, cells := 0, slots := 0, locals := 0 } : Room) 0 0 (some .int)) (h : ph_H) (hP : PX12_freely h) (hR : RETi X Y ad 50 SM cX12_freely (FX12_freely h)) : FJ X Y ad 50 SM h 0 [(0, .ref (ad 0))] [] := by
  unfold PX12_freely at hP
  unfold FX12_freely at hR
  refine j_aload_n C dX12_freely_0 rfl rfl ?_
  refine j_iconst (v := 0) C dX12_freely_1 (by decide) ?_
  refine pM_164 C dX12_freely_2 ?_
  refine j_aload_n C dX12_freely_5 rfl rfl ?_
  refine gM_182 (v := (h 0 9)) C dX12_freely_6 (hz_i (by decide)) ?_
  refine j_istore_n C dX12_freely_9 rfl (by decide) rfl ?_
  refine j_aload_n C dX12_freely_10 rfl rfl ?_
  refine j_iconst (v := 0) C dX12_freely_11 (by decide) ?_
  refine pM_182 C dX12_freely_12 ?_
  refine j_iload_n C dX12_freely_15 rfl rfl ?_
  exact hR _ _ dX12_freely_16
theorem MX12_freely {l0 : Launch} {Y : fj_Y} {ad : Nat → Nat} (h : ph_H) (hP : PX12_freely h) : MI l0 yX12_freely cX12_freely 2 (some .int) ({ frames := 0, cells := 0, slots := 0, locals := 0 } : Room) Y ad 50 SM h [.ref (ad 0)] (fun r S' h' => S' = SM ∧ h' = (FX12_freely h).2 ∧ r = (FX12_freely h).1) := met_i (by decide) (Nat.le_of_ble_eq_true rfl) (fun _ _ _ _ => rfl) (fun X C K => j_vl (tX12_freely C h hP (fun pc lv hd => K _ _ _ ⟨rfl, rfl, rfl⟩ pc lv hd)) ⟨rfl, trivial⟩)

-- X12_begin
def FX12_begin_36 (L2 : Int32 → ph_H → ph_H) (x1 : Int32) (s0 : Int32) (s1 : Int32) (h : ph_H) : ph_H := L2 (x1 + 1) (hs h 11 s1.toNatClampNeg s0)
def PX12_begin_36 (LP2 : Int32 → ph_H → Prop) (x1 : Int32) (s0 : Int32) (s1 : Int32) (h : ph_H) : Prop := vp_in s1 28 ∧ (LP2 (x1 + 1) (hs h 11 s1.toNatClampNeg s0))
set_option maxRecDepth 100000 in
set_option maxHeartbeats 4000000 in
theorem tX12_begin_36 {X : fj_X} {Y : fj_Y} {l0 : Launch} {ad : Nat → Nat} (C : FC X Y l0 cX12_begin 2 RX12 ({ frames := 0, cells := 0, slots := 0, locals := 0 } : Room) 0 0 none) (L2 : Int32 → ph_H → ph_H) (LP2 : Int32 → ph_H → Prop) (hL2 : ∀ (x1 : Int32) (h : ph_H), LP2 x1 h → RETv X Y ad 50 SM cX12_begin (L2 x1 h) → FJ X Y ad 50 SM h 2 [(0, .ref (ad 0)), (1, .int x1)] []) (x1 : Int32) (s0 : Int32) (s1 : Int32) (h : ph_H) (hP : PX12_begin_36 LP2 x1 s0 s1 h) (hR : RETv X Y ad 50 SM cX12_begin (FX12_begin_36 L2 x1 s0 s1 h)) : FJ X Y ad 50 SM h 36 [(0, .ref (ad 0)), (1, .int x1)] [.int s0, .int s1, .ref (ad 11)] := by
  unfold PX12_begin_36 at hP
  unfold FX12_begin_36 at hR
  obtain ⟨p0, hP⟩ := hP
  refine j_iast (k := 11) C dX12_begin_36 (by decide) rfl p0 ?_
  refine j_iinc (v := (x1 + 1)) C dX12_begin_37 rfl rfl (by decide) rfl ?_
  refine j_goto (tgt := 2) C dX12_begin_40 (by decide) ?_
  exact j_vl (hL2 (x1 + 1) (hs h 11 s1.toNatClampNeg s0) hP hR) ⟨rfl, rfl, trivial⟩
def FX12_begin_85 (L45 : Int32 → ph_H → ph_H) (x1 : Int32) (s0 : Int32) (s1 : Int32) (h : ph_H) : ph_H := L45 (x1 + 1) (hs (hs (hs h 13 s1.toNatClampNeg (vp_nar .boolean s0)) 14 x1.toNatClampNeg (-1)) 15 x1.toNatClampNeg (-1))
def PX12_begin_85 (LP45 : Int32 → ph_H → Prop) (x1 : Int32) (s0 : Int32) (s1 : Int32) (h : ph_H) : Prop := vp_in s1 4 ∧ (vp_in x1 4 ∧ (vp_in x1 4 ∧ (LP45 (x1 + 1) (hs (hs (hs h 13 s1.toNatClampNeg (vp_nar .boolean s0)) 14 x1.toNatClampNeg (-1)) 15 x1.toNatClampNeg (-1)))))
set_option maxRecDepth 100000 in
set_option maxHeartbeats 4000000 in
theorem tX12_begin_85 {X : fj_X} {Y : fj_Y} {l0 : Launch} {ad : Nat → Nat} (C : FC X Y l0 cX12_begin 2 RX12 ({ frames := 0, cells := 0, slots := 0, locals := 0 } : Room) 0 0 none) (L45 : Int32 → ph_H → ph_H) (LP45 : Int32 → ph_H → Prop) (hL45 : ∀ (x1 : Int32) (h : ph_H), LP45 x1 h → RETv X Y ad 50 SM cX12_begin (L45 x1 h) → FJ X Y ad 50 SM h 45 [(0, .ref (ad 0)), (1, .int x1)] []) (x1 : Int32) (s0 : Int32) (s1 : Int32) (h : ph_H) (hP : PX12_begin_85 LP45 x1 s0 s1 h) (hR : RETv X Y ad 50 SM cX12_begin (FX12_begin_85 L45 x1 s0 s1 h)) : FJ X Y ad 50 SM h 85 [(0, .ref (ad 0)), (1, .int x1)] [.int s0, .int s1, .ref (ad 13)] := by
  unfold PX12_begin_85 at hP
  unfold FX12_begin_85 at hR
  obtain ⟨p0, hP⟩ := hP
  refine j_zast (k := 13) C dX12_begin_85 (by decide) rfl p0 ?_
  refine j_aload_n C dX12_begin_86 rfl rfl ?_
  refine gM_50 C dX12_begin_87 ?_
  refine j_iload_n C dX12_begin_90 rfl rfl ?_
  refine j_iconst (v := (-1)) C dX12_begin_91 (by decide) ?_
  obtain ⟨p6, hP⟩ := hP
  refine j_iast (k := 14) C dX12_begin_92 (by decide) rfl p6 ?_
  refine j_aload_n C dX12_begin_93 rfl rfl ?_
  refine gM_53 C dX12_begin_94 ?_
  refine j_iload_n C dX12_begin_97 rfl rfl ?_
  refine j_iconst (v := (-1)) C dX12_begin_98 (by decide) ?_
  obtain ⟨p12, hP⟩ := hP
  refine j_iast (k := 15) C dX12_begin_99 (by decide) rfl p12 ?_
  refine j_iinc (v := (x1 + 1)) C dX12_begin_100 rfl rfl (by decide) rfl ?_
  refine j_goto (tgt := 45) C dX12_begin_103 (by decide) ?_
  exact j_vl (hL45 (x1 + 1) (hs (hs (hs h 13 s1.toNatClampNeg (vp_nar .boolean s0)) 14 x1.toNatClampNeg (-1)) 15 x1.toNatClampNeg (-1)) hP hR) ⟨rfl, rfl, trivial⟩
def FX12_begin_70 (L45 : Int32 → ph_H → ph_H) (x1 : Int32) (s0 : Int32) (s1 : Int32) (h : ph_H) : ph_H := if x1 = 0 then (FX12_begin_85 L45 x1 1 x1 (hs h 12 s1.toNatClampNeg s0)) else (FX12_begin_85 L45 x1 0 x1 (hs h 12 s1.toNatClampNeg s0))
def PX12_begin_70 (LP45 : Int32 → ph_H → Prop) (x1 : Int32) (s0 : Int32) (s1 : Int32) (h : ph_H) : Prop := vp_in s1 4 ∧ ((x1 = 0 → (PX12_begin_85 LP45 x1 1 x1 (hs h 12 s1.toNatClampNeg s0))) ∧ (¬ x1 = 0 → (PX12_begin_85 LP45 x1 0 x1 (hs h 12 s1.toNatClampNeg s0))))
set_option maxRecDepth 100000 in
set_option maxHeartbeats 4000000 in
theorem tX12_begin_70 {X : fj_X} {Y : fj_Y} {l0 : Launch} {ad : Nat → Nat} (C : FC X Y l0 cX12_begin 2 RX12 ({ frames := 0, cells := 0, slots := 0, locals := 0 } : Room) 0 0 none) (L45 : Int32 → ph_H → ph_H) (LP45 : Int32 → ph_H → Prop) (hL45 : ∀ (x1 : Int32) (h : ph_H), LP45 x1 h → RETv X Y ad 50 SM cX12_begin (L45 x1 h) → FJ X Y ad 50 SM h 45 [(0, .ref (ad 0)), (1, .int x1)] []) (x1 : Int32) (s0 : Int32) (s1 : Int32) (h : ph_H) (hP : PX12_begin_70 LP45 x1 s0 s1 h) (hR : RETv X Y ad 50 SM cX12_begin (FX12_begin_70 L45 x1 s0 s1 h)) : FJ X Y ad 50 SM h 70 [(0, .ref (ad 0)), (1, .int x1)] [.int s0, .int s1, .ref (ad 12)] := by
  unfold PX12_begin_70 at hP
  unfold FX12_begin_70 at hR
  obtain ⟨p0, hP⟩ := hP
  refine j_iast (k := 12) C dX12_begin_70 (by decide) rfl p0 ?_
  refine j_aload_n C dX12_begin_71 rfl rfl ?_
  refine gM_46 C dX12_begin_72 ?_
  refine j_iload_n C dX12_begin_75 rfl rfl ?_
  refine j_iload_n C dX12_begin_76 rfl rfl ?_
  refine j_if_ne (tgt := 84) C dX12_begin_77 (by decide) (fun c0 => ?_) (fun c0 => ?_)
  · have hP := hP.2 c0
    rw [if_neg c0] at hR
    refine j_iconst (v := 0) C dX12_begin_84 (by decide) ?_
    exact j_vl (tX12_begin_85 C L45 LP45 hL45 x1 0 x1 (hs h 12 s1.toNatClampNeg s0) hP hR) ⟨rfl, rfl, trivial⟩
  · have hP := hP.1 c0
    rw [if_pos c0] at hR
    refine j_iconst (v := 1) C dX12_begin_80 (by decide) ?_
    refine j_goto (tgt := 85) C dX12_begin_81 (by decide) ?_
    exact j_vl (tX12_begin_85 C L45 LP45 hL45 x1 1 x1 (hs h 12 s1.toNatClampNeg s0) hP hR) ⟨rfl, rfl, trivial⟩
def FX12_begin_45  : Nat → Int32 → ph_H → ph_H
  | 0, _, h => h
  | q + 1, x1, h => if 4 ≤ x1 then ((hs (hs (hs (hs (hs (hs h 0 18 0) 0 23 0) 0 24 0) 0 25 0) 0 26 0) 0 35 0)) else (if (h 1 (x1.toNatClampNeg)) ≤ 0 then (FX12_begin_70 (FX12_begin_45  q) x1 24 x1 h) else (FX12_begin_70 (FX12_begin_45  q) x1 0 x1 h))
def PX12_begin_45  : Nat → Int32 → ph_H → Prop
  | 0, _, _ => False
  | q + 1, x1, h => (4 ≤ x1 → (True)) ∧ (¬ 4 ≤ x1 → (vp_in x1 4 ∧ (((h 1 (x1.toNatClampNeg)) ≤ 0 → (PX12_begin_70 (PX12_begin_45  q) x1 24 x1 h)) ∧ (¬ (h 1 (x1.toNatClampNeg)) ≤ 0 → (PX12_begin_70 (PX12_begin_45  q) x1 0 x1 h)))))
set_option maxRecDepth 100000 in
set_option maxHeartbeats 4000000 in
theorem tX12_begin_45 {X : fj_X} {Y : fj_Y} {l0 : Launch} {ad : Nat → Nat} (C : FC X Y l0 cX12_begin 2 RX12 ({ frames := 0, cells := 0, slots := 0, locals := 0 } : Room) 0 0 none) : ∀ (q : Nat) (x1 : Int32) (h : ph_H), PX12_begin_45  q x1 h → RETv X Y ad 50 SM cX12_begin (FX12_begin_45  q x1 h) → FJ X Y ad 50 SM h 45 [(0, .ref (ad 0)), (1, .int x1)] [] := by
  intro q
  induction q with
  | zero =>
    intro x1 h hP hR
    exact absurd hP id
  | succ q ih =>
    intro x1 h hP hR
    unfold PX12_begin_45 at hP
    unfold FX12_begin_45 at hR
    refine j_iload_n C dX12_begin_45 rfl rfl ?_
    refine j_iconst (v := 4) C dX12_begin_46 (by decide) ?_
    refine j_icmp_ge (tgt := 106) C dX12_begin_47 (by decide) (fun c0 => ?_) (fun c0 => ?_)
    · have hP := hP.1 c0
      rw [if_pos c0] at hR
      refine j_aload_n C dX12_begin_106 rfl rfl ?_
      refine j_iconst (v := 0) C dX12_begin_107 (by decide) ?_
      refine pM_185 C dX12_begin_108 ?_
      refine j_aload_n C dX12_begin_111 rfl rfl ?_
      refine j_iconst (v := 0) C dX12_begin_112 (by decide) ?_
      refine pM_188 C dX12_begin_113 ?_
      refine j_aload_n C dX12_begin_116 rfl rfl ?_
      refine j_iconst (v := 0) C dX12_begin_117 (by decide) ?_
      refine pM_191 C dX12_begin_118 ?_
      refine j_aload_n C dX12_begin_121 rfl rfl ?_
      refine j_iconst (v := 0) C dX12_begin_122 (by decide) ?_
      refine pM_194 C dX12_begin_123 ?_
      refine j_aload_n C dX12_begin_126 rfl rfl ?_
      refine j_iconst (v := 0) C dX12_begin_127 (by decide) ?_
      refine pM_197 C dX12_begin_128 ?_
      refine j_aload_n C dX12_begin_131 rfl rfl ?_
      refine j_iconst (v := 0) C dX12_begin_132 (by decide) ?_
      refine pM_200 C dX12_begin_133 bo_0 ?_
      exact hR _ _ dX12_begin_136
    · have hP := hP.2 c0
      rw [if_neg c0] at hR
      refine j_aload_n C dX12_begin_50 rfl rfl ?_
      refine gM_43 C dX12_begin_51 ?_
      refine j_iload_n C dX12_begin_54 rfl rfl ?_
      refine j_aload_n C dX12_begin_55 rfl rfl ?_
      refine gM_7 C dX12_begin_56 ?_
      refine j_iload_n C dX12_begin_59 rfl rfl ?_
      obtain ⟨p6, hP⟩ := hP
      refine j_iald (k := 1) (v := (h 1 (x1.toNatClampNeg))) C dX12_begin_60 (by decide) rfl p6 rfl ?_
      refine j_if_le (tgt := 68) C dX12_begin_61 (by decide) (fun c1 => ?_) (fun c1 => ?_)
      · have hP := hP.1 c1
        rw [if_pos c1] at hR
        refine j_bipush (v := 24) C dX12_begin_68 (by decide) ?_
        exact j_vl (tX12_begin_70 C (FX12_begin_45  q) (PX12_begin_45  q) (ih) x1 24 x1 h hP hR) ⟨rfl, rfl, trivial⟩
      · have hP := hP.2 c1
        rw [if_neg c1] at hR
        refine j_iconst (v := 0) C dX12_begin_64 (by decide) ?_
        refine j_goto (tgt := 70) C dX12_begin_65 (by decide) ?_
        exact j_vl (tX12_begin_70 C (FX12_begin_45  q) (PX12_begin_45  q) (ih) x1 0 x1 h hP hR) ⟨rfl, rfl, trivial⟩
def FX12_begin_2  : Nat → Int32 → ph_H → ph_H
  | 0, _, h => h
  | q + 1, x1, h => if 28 ≤ x1 then (FX12_begin_45 2000 0 h) else (if 12 ≤ x1 then (FX12_begin_36 (FX12_begin_2  q) x1 0 x1 (hs h 10 x1.toNatClampNeg 0)) else (FX12_begin_36 (FX12_begin_2  q) x1 (h 6 (x1.toNatClampNeg)) x1 (hs h 10 x1.toNatClampNeg 0)))
def PX12_begin_2  : Nat → Int32 → ph_H → Prop
  | 0, _, _ => False
  | q + 1, x1, h => (28 ≤ x1 → (PX12_begin_45 2000 0 h)) ∧ (¬ 28 ≤ x1 → (vp_in x1 28 ∧ ((12 ≤ x1 → (PX12_begin_36 (PX12_begin_2  q) x1 0 x1 (hs h 10 x1.toNatClampNeg 0))) ∧ (¬ 12 ≤ x1 → (vp_in x1 12 ∧ (PX12_begin_36 (PX12_begin_2  q) x1 (h 6 (x1.toNatClampNeg)) x1 (hs h 10 x1.toNatClampNeg 0)))))))
set_option maxRecDepth 100000 in
set_option maxHeartbeats 4000000 in
theorem tX12_begin_2 {X : fj_X} {Y : fj_Y} {l0 : Launch} {ad : Nat → Nat} (C : FC X Y l0 cX12_begin 2 RX12 ({ frames := 0, cells := 0, slots := 0, locals := 0 } : Room) 0 0 none) : ∀ (q : Nat) (x1 : Int32) (h : ph_H), PX12_begin_2  q x1 h → RETv X Y ad 50 SM cX12_begin (FX12_begin_2  q x1 h) → FJ X Y ad 50 SM h 2 [(0, .ref (ad 0)), (1, .int x1)] [] := by
  intro q
  induction q with
  | zero =>
    intro x1 h hP hR
    exact absurd hP id
  | succ q ih =>
    intro x1 h hP hR
    unfold PX12_begin_2 at hP
    unfold FX12_begin_2 at hR
    refine j_iload_n C dX12_begin_2 rfl rfl ?_
    refine j_bipush (v := 28) C dX12_begin_3 (by decide) ?_
    refine j_icmp_ge (tgt := 43) C dX12_begin_5 (by decide) (fun c0 => ?_) (fun c0 => ?_)
    · have hP := hP.1 c0
      rw [if_pos c0] at hR
      refine j_iconst (v := 0) C dX12_begin_43 (by decide) ?_
      refine j_istore_n C dX12_begin_44 rfl (by decide) rfl ?_
      exact j_vl (tX12_begin_45 C 2000 0 h hP hR) ⟨rfl, rfl, trivial⟩
    · have hP := hP.2 c0
      rw [if_neg c0] at hR
      refine j_aload_n C dX12_begin_8 rfl rfl ?_
      refine gM_37 C dX12_begin_9 ?_
      refine j_iload_n C dX12_begin_12 rfl rfl ?_
      refine j_iconst (v := 0) C dX12_begin_13 (by decide) ?_
      obtain ⟨p4, hP⟩ := hP
      refine j_iast (k := 10) C dX12_begin_14 (by decide) rfl p4 ?_
      refine j_aload_n C dX12_begin_15 rfl rfl ?_
      refine gM_40 C dX12_begin_16 ?_
      refine j_iload_n C dX12_begin_19 rfl rfl ?_
      refine j_iload_n C dX12_begin_20 rfl rfl ?_
      refine j_bipush (v := 12) C dX12_begin_21 (by decide) ?_
      refine j_icmp_ge (tgt := 35) C dX12_begin_23 (by decide) (fun c1 => ?_) (fun c1 => ?_)
      · have hP := hP.1 c1
        rw [if_pos c1] at hR
        refine j_iconst (v := 0) C dX12_begin_35 (by decide) ?_
        exact j_vl (tX12_begin_36 C (FX12_begin_2  q) (PX12_begin_2  q) (ih) x1 0 x1 (hs h 10 x1.toNatClampNeg 0) hP hR) ⟨rfl, rfl, trivial⟩
      · have hP := hP.2 c1
        rw [if_neg c1] at hR
        refine j_aload_n C dX12_begin_26 rfl rfl ?_
        refine gM_25 C dX12_begin_27 ?_
        refine j_iload_n C dX12_begin_30 rfl rfl ?_
        obtain ⟨p3, hP⟩ := hP
        refine j_iald (k := 6) (v := (h 6 (x1.toNatClampNeg))) C dX12_begin_31 (by decide) rfl p3 (hz_k (by decide)) ?_
        refine j_goto (tgt := 36) C dX12_begin_32 (by decide) ?_
        exact j_vl (tX12_begin_36 C (FX12_begin_2  q) (PX12_begin_2  q) (ih) x1 (h 6 (x1.toNatClampNeg)) x1 (hs h 10 x1.toNatClampNeg 0) hP hR) ⟨rfl, rfl, trivial⟩
def FX12_begin (h : ph_H) : ph_H := FX12_begin_2 2000 0 h
def PX12_begin (h : ph_H) : Prop := PX12_begin_2 2000 0 h
set_option maxRecDepth 100000 in
set_option maxHeartbeats 4000000 in
theorem tX12_begin {X : fj_X} {Y : fj_Y} {l0 : Launch} {ad : Nat → Nat} (C : FC X Y l0 cX12_begin 2 RX12 ({ frames := 0, cells := 0, slots := 0, locals := 0 } : Room) 0 0 none) (h : ph_H) (hP : PX12_begin h) (hR : RETv X Y ad 50 SM cX12_begin (FX12_begin h)) : FJ X Y ad 50 SM h 0 [(0, .ref (ad 0))] [] := by
  unfold PX12_begin at hP
  unfold FX12_begin at hR
  refine j_iconst (v := 0) C dX12_begin_0 (by decide) ?_
  refine j_istore_n C dX12_begin_1 rfl (by decide) rfl ?_
  exact j_vl (tX12_begin_2 C 2000 0 h hP hR) ⟨rfl, rfl, trivial⟩
theorem MX12_begin {l0 : Launch} {Y : fj_Y} {ad : Nat → Nat} (h : ph_H) (hP : PX12_begin h) : MV l0 yX12_begin cX12_begin 2 ({ frames := 0, cells := 0, slots := 0, locals := 0 } : Room) Y ad 50 SM h [.ref (ad 0)] (fun S' h' => S' = SM ∧ h' = FX12_begin h) := met_v (by decide) (Nat.le_of_ble_eq_true rfl) (fun X C K => j_vl (tX12_begin C h hP (fun pc lv hd => K _ _ ⟨rfl, rfl⟩ pc lv hd)) ⟨rfl, trivial⟩)

-- X12_local
def FX12_local (a0 : Int32) (a1 : Int32) (h : ph_H) : Int32 := ((12 + (4 * a0)) + (FX12_modulo a1 4))
def PX12_local (a0 : Int32) (a1 : Int32) (h : ph_H) : Prop := (PX12_modulo a1 4) ∧ (True)
set_option maxRecDepth 100000 in
set_option maxHeartbeats 4000000 in
theorem tX12_local {X : fj_X} {Y : fj_Y} {l0 : Launch} {ad : Nat → Nat} (C : FC X Y l0 cX12_local 3 RX12 ({ frames := 1, cells := 0, slots := 0, locals := 21 } : Room) 0 0 (some .int)) (a0 : Int32) (a1 : Int32) (h : ph_H) (hP : PX12_local a0 a1 h) (hR : RETp X Y ad 50 SM h cX12_local (FX12_local a0 a1 h)) : FJ X Y ad 50 SM h 0 [(0, .ref (ad 0)), (1, .int a0), (2, .int a1)] [] := by
  unfold PX12_local at hP
  unfold FX12_local at hR
  refine j_bipush (v := 12) C dX12_local_0 (by decide) ?_
  refine j_iconst (v := 4) C dX12_local_2 (by decide) ?_
  refine j_iload_n C dX12_local_3 rfl rfl ?_
  refine j_imul C dX12_local_4 ?_
  refine j_iadd C dX12_local_5 ?_
  refine j_iload_n C dX12_local_6 rfl rfl ?_
  refine j_iconst (v := 4) C dX12_local_7 (by decide) ?_
  obtain ⟨p7, hP⟩ := hP
  refine j_callS C (MX12_modulo a1 4 h p7) dX12_local_8 (CKX12_modulo (by decide)) ⟨rfl, rfl⟩ lk_RX12_204 st_X12_modulo rfl (Nat.le_of_ble_eq_true rfl) ?_
  intro r S' h' hq
  obtain ⟨rfl, hh, rfl⟩ := hq
  rw [hh]
  refine j_iadd C dX12_local_11 ?_
  exact hR _ _ dX12_local_12
theorem MX12_local {l0 : Launch} {Y : fj_Y} {ad : Nat → Nat} (a0 : Int32) (a1 : Int32) (h : ph_H) (hP : PX12_local a0 a1 h) : MI l0 yX12_local cX12_local 3 (some .int) ({ frames := 1, cells := 0, slots := 0, locals := 21 } : Room) Y ad 50 SM h [.ref (ad 0), .int a0, .int a1] (fun r S' h' => S' = SM ∧ h' = h ∧ r = FX12_local a0 a1 h) := met_i (by decide) (Nat.le_of_ble_eq_true rfl) (fun _ _ _ _ => rfl) (fun X C K => j_vl (tX12_local C a0 a1 h hP (fun pc lv hd => K _ _ _ ⟨rfl, rfl, rfl⟩ pc lv hd)) ⟨rfl, rfl, rfl, trivial⟩)

-- X12_isLock
def FX12_isLock_20  (h : ph_H) : Int32 := 1
def PX12_isLock_20  (h : ph_H) : Prop := True
set_option maxRecDepth 100000 in
set_option maxHeartbeats 4000000 in
theorem tX12_isLock_20 {X : fj_X} {Y : fj_Y} {l0 : Launch} {ad : Nat → Nat} (C : FC X Y l0 cX12_isLock 2 RX12 ({ frames := 0, cells := 0, slots := 0, locals := 0 } : Room) 0 0 (some .boolean)) (h : ph_H)  (hP : PX12_isLock_20  h) (hR : RETq X Y ad 50 SM h cX12_isLock (FX12_isLock_20  h)) : FJ X Y ad 50 SM h 20 [] [] := by
  unfold PX12_isLock_20 at hP
  unfold FX12_isLock_20 at hR
  refine j_iconst (v := 1) C dX12_isLock_20 (by decide) ?_
  refine j_goto (tgt := 25) C dX12_isLock_21 (by decide) ?_
  exact hR bo_1 _ _ dX12_isLock_25
def FX12_isLock (a0 : Int32) (h : ph_H) : Int32 := if (h 10 (a0.toNatClampNeg)) = 2 then (FX12_isLock_20  h) else (if (h 10 (a0.toNatClampNeg)) = 3 then (FX12_isLock_20  h) else (0))
def PX12_isLock (a0 : Int32) (h : ph_H) : Prop := vp_in a0 28 ∧ (((h 10 (a0.toNatClampNeg)) = 2 → (PX12_isLock_20  h)) ∧ (¬ (h 10 (a0.toNatClampNeg)) = 2 → (vp_in a0 28 ∧ (((h 10 (a0.toNatClampNeg)) = 3 → (PX12_isLock_20  h)) ∧ (¬ (h 10 (a0.toNatClampNeg)) = 3 → (True))))))
set_option maxRecDepth 100000 in
set_option maxHeartbeats 4000000 in
theorem tX12_isLock {X : fj_X} {Y : fj_Y} {l0 : Launch} {ad : Nat → Nat} (C : FC X Y l0 cX12_isLock 2 RX12 ({ frames := 0, cells := 0, slots := 0, locals := 0 } : Room) 0 0 (some .boolean)) (a0 : Int32) (h : ph_H) (hP : PX12_isLock a0 h) (hR : RETq X Y ad 50 SM h cX12_isLock (FX12_isLock a0 h)) : FJ X Y ad 50 SM h 0 [(0, .ref (ad 0)), (1, .int a0)] [] := by
  unfold PX12_isLock at hP
  unfold FX12_isLock at hR
  refine j_aload_n C dX12_isLock_0 rfl rfl ?_
  refine gM_37 C dX12_isLock_1 ?_
  refine j_iload_n C dX12_isLock_4 rfl rfl ?_
  obtain ⟨p3, hP⟩ := hP
  refine j_iald (k := 10) (v := (h 10 (a0.toNatClampNeg))) C dX12_isLock_5 (by decide) rfl p3 rfl ?_
  refine j_iconst (v := 2) C dX12_isLock_6 (by decide) ?_
  refine j_icmp_eq (tgt := 20) C dX12_isLock_7 (by decide) (fun c0 => ?_) (fun c0 => ?_)
  · have hP := hP.1 c0
    rw [if_pos c0] at hR
    exact j_vl (tX12_isLock_20 C h  hP hR) trivial
  · have hP := hP.2 c0
    rw [if_neg c0] at hR
    refine j_aload_n C dX12_isLock_10 rfl rfl ?_
    refine gM_37 C dX12_isLock_11 ?_
    refine j_iload_n C dX12_isLock_14 rfl rfl ?_
    obtain ⟨p3, hP⟩ := hP
    refine j_iald (k := 10) (v := (h 10 (a0.toNatClampNeg))) C dX12_isLock_15 (by decide) rfl p3 rfl ?_
    refine j_iconst (v := 3) C dX12_isLock_16 (by decide) ?_
    refine j_icmp_ne (tgt := 24) C dX12_isLock_17 (by decide) (fun c1 => ?_) (fun c1 => ?_)
    · have hP := hP.2 c1
      rw [if_neg c1] at hR
      refine j_iconst (v := 0) C dX12_isLock_24 (by decide) ?_
      exact hR bo_0 _ _ dX12_isLock_25
    · have hP := hP.1 c1
      rw [if_pos c1] at hR
      exact j_vl (tX12_isLock_20 C h  hP hR) trivial
theorem MX12_isLock {l0 : Launch} {Y : fj_Y} {ad : Nat → Nat} (a0 : Int32) (h : ph_H) (hP : PX12_isLock a0 h) : MI l0 yX12_isLock cX12_isLock 2 (some .boolean) ({ frames := 0, cells := 0, slots := 0, locals := 0 } : Room) Y ad 50 SM h [.ref (ad 0), .int a0] (fun r S' h' => S' = SM ∧ h' = h ∧ r = FX12_isLock a0 h ∧ bo r) := met_i (by decide) (Nat.le_of_ble_eq_true rfl) (fun _ _ _ q => bo_n q.2.2.2) (fun X C K => j_vl (tX12_isLock C a0 h hP (fun b pc lv hd => K _ _ _ ⟨rfl, rfl, rfl, b⟩ pc lv hd)) ⟨rfl, rfl, trivial⟩)

-- X12_canGo
def FX12_canGo_144  (h : ph_H) : Int32 := 1
def PX12_canGo_144  (h : ph_H) : Prop := True
set_option maxRecDepth 100000 in
set_option maxHeartbeats 4000000 in
theorem tX12_canGo_144 {X : fj_X} {Y : fj_Y} {l0 : Launch} {ad : Nat → Nat} (C : FC X Y l0 cX12_canGo 5 RX12 ({ frames := 2, cells := 0, slots := 0, locals := 43 } : Room) 0 0 (some .boolean)) (h : ph_H)  (hP : PX12_canGo_144  h) (hR : RETq X Y ad 50 SM h cX12_canGo (FX12_canGo_144  h)) : FJ X Y ad 50 SM h 144 [] [] := by
  unfold PX12_canGo_144 at hP
  unfold FX12_canGo_144 at hR
  refine j_iconst (v := 1) C dX12_canGo_144 (by decide) ?_
  refine j_goto (tgt := 149) C dX12_canGo_145 (by decide) ?_
  exact hR bo_1 _ _ dX12_canGo_149
def FX12_canGo_108  (x1 : Int32) (x3 : Int32) (s0 : Int32) (h : ph_H) : Int32 := if s0 = 0 then (FX12_canGo_144  h) else (if (h 17 ((h 11 (x3.toNatClampNeg)).toNatClampNeg)) < 0 then (FX12_canGo_144  h) else (if (h 17 ((h 11 (x3.toNatClampNeg)).toNatClampNeg)) = x1 then (FX12_canGo_144  h) else (0)))
def PX12_canGo_108  (x1 : Int32) (x3 : Int32) (s0 : Int32) (h : ph_H) : Prop := (s0 = 0 → (PX12_canGo_144  h)) ∧ (¬ s0 = 0 → (vp_in x3 28 ∧ (vp_in (h 11 (x3.toNatClampNeg)) 12 ∧ (((h 17 ((h 11 (x3.toNatClampNeg)).toNatClampNeg)) < 0 → (PX12_canGo_144  h)) ∧ (¬ (h 17 ((h 11 (x3.toNatClampNeg)).toNatClampNeg)) < 0 → (vp_in x3 28 ∧ (vp_in (h 11 (x3.toNatClampNeg)) 12 ∧ (((h 17 ((h 11 (x3.toNatClampNeg)).toNatClampNeg)) = x1 → (PX12_canGo_144  h)) ∧ (¬ (h 17 ((h 11 (x3.toNatClampNeg)).toNatClampNeg)) = x1 → (True))))))))))
set_option maxRecDepth 100000 in
set_option maxHeartbeats 4000000 in
theorem tX12_canGo_108 {X : fj_X} {Y : fj_Y} {l0 : Launch} {ad : Nat → Nat} (C : FC X Y l0 cX12_canGo 5 RX12 ({ frames := 2, cells := 0, slots := 0, locals := 43 } : Room) 0 0 (some .boolean)) (h : ph_H) (x1 : Int32) (x3 : Int32) (s0 : Int32) (hP : PX12_canGo_108  x1 x3 s0 h) (hR : RETq X Y ad 50 SM h cX12_canGo (FX12_canGo_108  x1 x3 s0 h)) : FJ X Y ad 50 SM h 108 [(0, .ref (ad 0)), (1, .int x1), (3, .int x3)] [.int s0] := by
  unfold PX12_canGo_108 at hP
  unfold FX12_canGo_108 at hR
  refine j_istore C dX12_canGo_108 (by decide) rfl ?_
  refine j_iload C dX12_canGo_110 rfl ?_
  refine j_if_eq (tgt := 144) C dX12_canGo_112 (by decide) (fun c0 => ?_) (fun c0 => ?_)
  · have hP := hP.1 c0
    rw [if_pos c0] at hR
    exact j_vl (tX12_canGo_144 C h  hP hR) trivial
  · have hP := hP.2 c0
    rw [if_neg c0] at hR
    refine j_aload_n C dX12_canGo_115 rfl rfl ?_
    refine gM_59 C dX12_canGo_116 ?_
    refine j_aload_n C dX12_canGo_119 rfl rfl ?_
    refine gM_40 C dX12_canGo_120 ?_
    refine j_iload_n C dX12_canGo_123 rfl rfl ?_
    obtain ⟨p5, hP⟩ := hP
    refine j_iald (k := 11) (v := (h 11 (x3.toNatClampNeg))) C dX12_canGo_124 (by decide) rfl p5 rfl ?_
    obtain ⟨p7, hP⟩ := hP
    refine j_iald (k := 17) (v := (h 17 ((h 11 (x3.toNatClampNeg)).toNatClampNeg))) C dX12_canGo_125 (by decide) rfl p7 rfl ?_
    refine j_if_lt (tgt := 144) C dX12_canGo_126 (by decide) (fun c1 => ?_) (fun c1 => ?_)
    · have hP := hP.1 c1
      rw [if_pos c1] at hR
      exact j_vl (tX12_canGo_144 C h  hP hR) trivial
    · have hP := hP.2 c1
      rw [if_neg c1] at hR
      refine j_aload_n C dX12_canGo_129 rfl rfl ?_
      refine gM_59 C dX12_canGo_130 ?_
      refine j_aload_n C dX12_canGo_133 rfl rfl ?_
      refine gM_40 C dX12_canGo_134 ?_
      refine j_iload_n C dX12_canGo_137 rfl rfl ?_
      obtain ⟨p5, hP⟩ := hP
      refine j_iald (k := 11) (v := (h 11 (x3.toNatClampNeg))) C dX12_canGo_138 (by decide) rfl p5 rfl ?_
      obtain ⟨p7, hP⟩ := hP
      refine j_iald (k := 17) (v := (h 17 ((h 11 (x3.toNatClampNeg)).toNatClampNeg))) C dX12_canGo_139 (by decide) rfl p7 rfl ?_
      refine j_iload_n C dX12_canGo_140 rfl rfl ?_
      refine j_icmp_ne (tgt := 148) C dX12_canGo_141 (by decide) (fun c2 => ?_) (fun c2 => ?_)
      · have hP := hP.2 c2
        rw [if_neg c2] at hR
        refine j_iconst (v := 0) C dX12_canGo_148 (by decide) ?_
        exact hR bo_0 _ _ dX12_canGo_149
      · have hP := hP.1 c2
        rw [if_pos c2] at hR
        exact j_vl (tX12_canGo_144 C h  hP hR) trivial
def FX12_canGo_107  (x1 : Int32) (x3 : Int32) (h : ph_H) : Int32 := FX12_canGo_108  x1 x3 0 h
def PX12_canGo_107  (x1 : Int32) (x3 : Int32) (h : ph_H) : Prop := PX12_canGo_108  x1 x3 0 h
set_option maxRecDepth 100000 in
set_option maxHeartbeats 4000000 in
theorem tX12_canGo_107 {X : fj_X} {Y : fj_Y} {l0 : Launch} {ad : Nat → Nat} (C : FC X Y l0 cX12_canGo 5 RX12 ({ frames := 2, cells := 0, slots := 0, locals := 43 } : Room) 0 0 (some .boolean)) (h : ph_H) (x1 : Int32) (x3 : Int32) (hP : PX12_canGo_107  x1 x3 h) (hR : RETq X Y ad 50 SM h cX12_canGo (FX12_canGo_107  x1 x3 h)) : FJ X Y ad 50 SM h 107 [(0, .ref (ad 0)), (1, .int x1), (3, .int x3)] [] := by
  unfold PX12_canGo_107 at hP
  unfold FX12_canGo_107 at hR
  refine j_iconst (v := 0) C dX12_canGo_107 (by decide) ?_
  exact j_vl (tX12_canGo_108 C h x1 x3 0 hP hR) ⟨rfl, rfl, rfl, trivial⟩
def FX12_canGo (a0 : Int32) (h : ph_H) : Int32 := if (h 13 (a0.toNatClampNeg)) = 0 then (0) else (if (h 12 (a0.toNatClampNeg)) = 24 then (0) else (if (h 14 (a0.toNatClampNeg)) < 0 then (if (h 15 (a0.toNatClampNeg)) < 0 then (if (h 2 (((24 * a0) + (h 12 (a0.toNatClampNeg))).toNatClampNeg)) = 12 then (if (FX12_isLock (FX12_local a0 (h 3 (((24 * a0) + (h 12 (a0.toNatClampNeg))).toNatClampNeg)) h) h) = 0 then (FX12_canGo_107  a0 (FX12_local a0 (h 3 (((24 * a0) + (h 12 (a0.toNatClampNeg))).toNatClampNeg)) h) h) else (FX12_canGo_108  a0 (FX12_local a0 (h 3 (((24 * a0) + (h 12 (a0.toNatClampNeg))).toNatClampNeg)) h) 1 h)) else (FX12_canGo_107  a0 (FX12_local a0 (h 3 (((24 * a0) + (h 12 (a0.toNatClampNeg))).toNatClampNeg)) h) h)) else (if 0 ≤ (h 17 ((h 15 (a0.toNatClampNeg)).toNatClampNeg)) then (0) else (1))) else (0)))
def PX12_canGo (a0 : Int32) (h : ph_H) : Prop := vp_in a0 4 ∧ (((h 13 (a0.toNatClampNeg)) = 0 → (True)) ∧ (¬ (h 13 (a0.toNatClampNeg)) = 0 → (vp_in a0 4 ∧ (((h 12 (a0.toNatClampNeg)) = 24 → (True)) ∧ (¬ (h 12 (a0.toNatClampNeg)) = 24 → (vp_in a0 4 ∧ (((h 14 (a0.toNatClampNeg)) < 0 → (vp_in a0 4 ∧ (((h 15 (a0.toNatClampNeg)) < 0 → (vp_in a0 4 ∧ (vp_in ((24 * a0) + (h 12 (a0.toNatClampNeg))) 96 ∧ ((PX12_local a0 (h 3 (((24 * a0) + (h 12 (a0.toNatClampNeg))).toNatClampNeg)) h) ∧ (vp_in ((24 * a0) + (h 12 (a0.toNatClampNeg))) 96 ∧ (((h 2 (((24 * a0) + (h 12 (a0.toNatClampNeg))).toNatClampNeg)) = 12 → ((PX12_isLock (FX12_local a0 (h 3 (((24 * a0) + (h 12 (a0.toNatClampNeg))).toNatClampNeg)) h) h) ∧ (((FX12_isLock (FX12_local a0 (h 3 (((24 * a0) + (h 12 (a0.toNatClampNeg))).toNatClampNeg)) h) h) = 0 → (PX12_canGo_107  a0 (FX12_local a0 (h 3 (((24 * a0) + (h 12 (a0.toNatClampNeg))).toNatClampNeg)) h) h)) ∧ (¬ (FX12_isLock (FX12_local a0 (h 3 (((24 * a0) + (h 12 (a0.toNatClampNeg))).toNatClampNeg)) h) h) = 0 → (PX12_canGo_108  a0 (FX12_local a0 (h 3 (((24 * a0) + (h 12 (a0.toNatClampNeg))).toNatClampNeg)) h) 1 h))))) ∧ (¬ (h 2 (((24 * a0) + (h 12 (a0.toNatClampNeg))).toNatClampNeg)) = 12 → (PX12_canGo_107  a0 (FX12_local a0 (h 3 (((24 * a0) + (h 12 (a0.toNatClampNeg))).toNatClampNeg)) h) h)))))))) ∧ (¬ (h 15 (a0.toNatClampNeg)) < 0 → (vp_in a0 4 ∧ (vp_in (h 15 (a0.toNatClampNeg)) 12 ∧ ((0 ≤ (h 17 ((h 15 (a0.toNatClampNeg)).toNatClampNeg)) → (True)) ∧ (¬ 0 ≤ (h 17 ((h 15 (a0.toNatClampNeg)).toNatClampNeg)) → (True))))))))) ∧ (¬ (h 14 (a0.toNatClampNeg)) < 0 → (True)))))))))
set_option maxRecDepth 100000 in
set_option maxHeartbeats 4000000 in
theorem tX12_canGo {X : fj_X} {Y : fj_Y} {l0 : Launch} {ad : Nat → Nat} (C : FC X Y l0 cX12_canGo 5 RX12 ({ frames := 2, cells := 0, slots := 0, locals := 43 } : Room) 0 0 (some .boolean)) (a0 : Int32) (h : ph_H) (hP : PX12_canGo a0 h) (hR : RETq X Y ad 50 SM h cX12_canGo (FX12_canGo a0 h)) : FJ X Y ad 50 SM h 0 [(0, .ref (ad 0)), (1, .int a0)] [] := by
  unfold PX12_canGo at hP
  unfold FX12_canGo at hR
  refine j_aload_n C dX12_canGo_0 rfl rfl ?_
  refine gM_46 C dX12_canGo_1 ?_
  refine j_iload_n C dX12_canGo_4 rfl rfl ?_
  obtain ⟨p3, hP⟩ := hP
  refine j_zald (k := 13) (v := (h 13 (a0.toNatClampNeg))) C dX12_canGo_5 (by decide) rfl p3 rfl ?_
  refine j_if_eq (tgt := 29) C dX12_canGo_6 (by decide) (fun c0 => ?_) (fun c0 => ?_)
  · have hP := hP.1 c0
    rw [if_pos c0] at hR
    refine j_iconst (v := 0) C dX12_canGo_29 (by decide) ?_
    exact hR bo_0 _ _ dX12_canGo_30
  · have hP := hP.2 c0
    rw [if_neg c0] at hR
    refine j_aload_n C dX12_canGo_9 rfl rfl ?_
    refine gM_43 C dX12_canGo_10 ?_
    refine j_iload_n C dX12_canGo_13 rfl rfl ?_
    obtain ⟨p3, hP⟩ := hP
    refine j_iald (k := 12) (v := (h 12 (a0.toNatClampNeg))) C dX12_canGo_14 (by decide) rfl p3 rfl ?_
    refine j_bipush (v := 24) C dX12_canGo_15 (by decide) ?_
    refine j_icmp_eq (tgt := 29) C dX12_canGo_17 (by decide) (fun c1 => ?_) (fun c1 => ?_)
    · have hP := hP.1 c1
      rw [if_pos c1] at hR
      refine j_iconst (v := 0) C dX12_canGo_29 (by decide) ?_
      exact hR bo_0 _ _ dX12_canGo_30
    · have hP := hP.2 c1
      rw [if_neg c1] at hR
      refine j_aload_n C dX12_canGo_20 rfl rfl ?_
      refine gM_50 C dX12_canGo_21 ?_
      refine j_iload_n C dX12_canGo_24 rfl rfl ?_
      obtain ⟨p3, hP⟩ := hP
      refine j_iald (k := 14) (v := (h 14 (a0.toNatClampNeg))) C dX12_canGo_25 (by decide) rfl p3 rfl ?_
      refine j_if_lt (tgt := 31) C dX12_canGo_26 (by decide) (fun c2 => ?_) (fun c2 => ?_)
      · have hP := hP.1 c2
        rw [if_pos c2] at hR
        refine j_aload_n C dX12_canGo_31 rfl rfl ?_
        refine gM_53 C dX12_canGo_32 ?_
        refine j_iload_n C dX12_canGo_35 rfl rfl ?_
        obtain ⟨p3, hP⟩ := hP
        refine j_iald (k := 15) (v := (h 15 (a0.toNatClampNeg))) C dX12_canGo_36 (by decide) rfl p3 rfl ?_
        refine j_if_lt (tgt := 60) C dX12_canGo_37 (by decide) (fun c3 => ?_) (fun c3 => ?_)
        · have hP := hP.1 c3
          rw [if_pos c3] at hR
          refine j_bipush (v := 24) C dX12_canGo_60 (by decide) ?_
          refine j_iload_n C dX12_canGo_62 rfl rfl ?_
          refine j_imul C dX12_canGo_63 ?_
          refine j_aload_n C dX12_canGo_64 rfl rfl ?_
          refine gM_43 C dX12_canGo_65 ?_
          refine j_iload_n C dX12_canGo_68 rfl rfl ?_
          obtain ⟨p6, hP⟩ := hP
          refine j_iald (k := 12) (v := (h 12 (a0.toNatClampNeg))) C dX12_canGo_69 (by decide) rfl p6 rfl ?_
          refine j_iadd C dX12_canGo_70 ?_
          refine j_istore_n C dX12_canGo_71 rfl (by decide) rfl ?_
          refine j_aload_n C dX12_canGo_72 rfl rfl ?_
          refine j_iload_n C dX12_canGo_73 rfl rfl ?_
          refine j_aload_n C dX12_canGo_74 rfl rfl ?_
          refine gM_16 C dX12_canGo_75 ?_
          refine j_iload_n C dX12_canGo_78 rfl rfl ?_
          obtain ⟨p15, hP⟩ := hP
          refine j_iald (k := 3) (v := (h 3 (((24 * a0) + (h 12 (a0.toNatClampNeg))).toNatClampNeg))) C dX12_canGo_79 (by decide) rfl p15 rfl ?_
          obtain ⟨p17, hP⟩ := hP
          refine j_callV C (MX12_local a0 (h 3 (((24 * a0) + (h 12 (a0.toNatClampNeg))).toNatClampNeg)) h p17) dX12_canGo_80 (CKX12_local (by decide)) ⟨rfl, rfl⟩ lk_RX12_208 in_X12_local se_X12_local (by decide) rfl rfl rfl (Nat.le_of_ble_eq_true rfl) ?_
          intro r S' h' hq
          obtain ⟨rfl, hh, rfl⟩ := hq
          rw [hh]
          refine j_istore_n C dX12_canGo_83 rfl (by decide) rfl ?_
          refine j_aload_n C dX12_canGo_84 rfl rfl ?_
          refine gM_13 C dX12_canGo_85 ?_
          refine j_iload_n C dX12_canGo_88 rfl rfl ?_
          obtain ⟨p26, hP⟩ := hP
          refine j_iald (k := 2) (v := (h 2 (((24 * a0) + (h 12 (a0.toNatClampNeg))).toNatClampNeg))) C dX12_canGo_89 (by decide) rfl p26 rfl ?_
          refine j_bipush (v := 12) C dX12_canGo_90 (by decide) ?_
          refine j_icmp_ne (tgt := 107) C dX12_canGo_92 (by decide) (fun c4 => ?_) (fun c4 => ?_)
          · have hP := hP.2 c4
            rw [if_neg c4] at hR
            exact j_vl (tX12_canGo_107 C h a0 (FX12_local a0 (h 3 (((24 * a0) + (h 12 (a0.toNatClampNeg))).toNatClampNeg)) h) hP hR) ⟨rfl, rfl, rfl, trivial⟩
          · have hP := hP.1 c4
            rw [if_pos c4] at hR
            refine j_aload_n C dX12_canGo_95 rfl rfl ?_
            refine j_iload_n C dX12_canGo_96 rfl rfl ?_
            obtain ⟨p2, hP⟩ := hP
            refine j_callV C (MX12_isLock (FX12_local a0 (h 3 (((24 * a0) + (h 12 (a0.toNatClampNeg))).toNatClampNeg)) h) h p2) dX12_canGo_97 (CKX12_isLock (by decide)) ⟨rfl, rfl⟩ lk_RX12_211 in_X12_isLock se_X12_isLock (by decide) rfl rfl rfl (Nat.le_of_ble_eq_true rfl) ?_
            intro r S' h' hq
            obtain ⟨rfl, hh, rfl, hb4⟩ := hq
            rw [hh]
            refine j_if_eq (tgt := 107) C dX12_canGo_100 (by decide) (fun c5 => ?_) (fun c5 => ?_)
            · have hP := hP.1 c5
              rw [if_pos c5] at hR
              exact j_vl (tX12_canGo_107 C h a0 (FX12_local a0 (h 3 (((24 * a0) + (h 12 (a0.toNatClampNeg))).toNatClampNeg)) h) hP hR) ⟨rfl, rfl, rfl, trivial⟩
            · have hP := hP.2 c5
              rw [if_neg c5] at hR
              refine j_iconst (v := 1) C dX12_canGo_103 (by decide) ?_
              refine j_goto (tgt := 108) C dX12_canGo_104 (by decide) ?_
              exact j_vl (tX12_canGo_108 C h a0 (FX12_local a0 (h 3 (((24 * a0) + (h 12 (a0.toNatClampNeg))).toNatClampNeg)) h) 1 hP hR) ⟨rfl, rfl, rfl, trivial⟩
        · have hP := hP.2 c3
          rw [if_neg c3] at hR
          refine j_aload_n C dX12_canGo_40 rfl rfl ?_
          refine gM_59 C dX12_canGo_41 ?_
          refine j_aload_n C dX12_canGo_44 rfl rfl ?_
          refine gM_53 C dX12_canGo_45 ?_
          refine j_iload_n C dX12_canGo_48 rfl rfl ?_
          obtain ⟨p5, hP⟩ := hP
          refine j_iald (k := 15) (v := (h 15 (a0.toNatClampNeg))) C dX12_canGo_49 (by decide) rfl p5 rfl ?_
          obtain ⟨p7, hP⟩ := hP
          refine j_iald (k := 17) (v := (h 17 ((h 15 (a0.toNatClampNeg)).toNatClampNeg))) C dX12_canGo_50 (by decide) rfl p7 rfl ?_
          refine j_if_ge (tgt := 58) C dX12_canGo_51 (by decide) (fun c4 => ?_) (fun c4 => ?_)
          · have hP := hP.1 c4
            rw [if_pos c4] at hR
            refine j_iconst (v := 0) C dX12_canGo_58 (by decide) ?_
            exact hR bo_0 _ _ dX12_canGo_59
          · have hP := hP.2 c4
            rw [if_neg c4] at hR
            refine j_iconst (v := 1) C dX12_canGo_54 (by decide) ?_
            refine j_goto (tgt := 59) C dX12_canGo_55 (by decide) ?_
            exact hR bo_1 _ _ dX12_canGo_59
      · have hP := hP.2 c2
        rw [if_neg c2] at hR
        refine j_iconst (v := 0) C dX12_canGo_29 (by decide) ?_
        exact hR bo_0 _ _ dX12_canGo_30
theorem MX12_canGo {l0 : Launch} {Y : fj_Y} {ad : Nat → Nat} (a0 : Int32) (h : ph_H) (hP : PX12_canGo a0 h) : MI l0 yX12_canGo cX12_canGo 5 (some .boolean) ({ frames := 2, cells := 0, slots := 0, locals := 43 } : Room) Y ad 50 SM h [.ref (ad 0), .int a0] (fun r S' h' => S' = SM ∧ h' = h ∧ r = FX12_canGo a0 h ∧ bo r) := met_i (by decide) (Nat.le_of_ble_eq_true rfl) (fun _ _ _ q => bo_n q.2.2.2) (fun X C K => j_vl (tX12_canGo C a0 h hP (fun b pc lv hd => K _ _ _ ⟨rfl, rfl, rfl, b⟩ pc lv hd)) ⟨rfl, rfl, trivial⟩)
end MG_08_m00
section MG_08_m01
-- X12_state
def FX12_state (a0 : Int32) (h : ph_H) : Int32 := if (h 13 (a0.toNatClampNeg)) = 0 then (0) else (if (h 12 (a0.toNatClampNeg)) = 24 then (4) else (if (h 14 (a0.toNatClampNeg)) < 0 then (if (FX12_canGo a0 h) = 0 then (2) else (1)) else (3)))
def PX12_state (a0 : Int32) (h : ph_H) : Prop := vp_in a0 4 ∧ (((h 13 (a0.toNatClampNeg)) = 0 → (True)) ∧ (¬ (h 13 (a0.toNatClampNeg)) = 0 → (vp_in a0 4 ∧ (((h 12 (a0.toNatClampNeg)) = 24 → (True)) ∧ (¬ (h 12 (a0.toNatClampNeg)) = 24 → (vp_in a0 4 ∧ (((h 14 (a0.toNatClampNeg)) < 0 → ((PX12_canGo a0 h) ∧ (((FX12_canGo a0 h) = 0 → (True)) ∧ (¬ (FX12_canGo a0 h) = 0 → (True))))) ∧ (¬ (h 14 (a0.toNatClampNeg)) < 0 → (True)))))))))
set_option maxRecDepth 100000 in
set_option maxHeartbeats 4000000 in
theorem tX12_state {X : fj_X} {Y : fj_Y} {l0 : Launch} {ad : Nat → Nat} (C : FC X Y l0 cX12_state 2 RX12 ({ frames := 3, cells := 0, slots := 0, locals := 67 } : Room) 0 0 (some .int)) (a0 : Int32) (h : ph_H) (hP : PX12_state a0 h) (hR : RETp X Y ad 50 SM h cX12_state (FX12_state a0 h)) : FJ X Y ad 50 SM h 0 [(0, .ref (ad 0)), (1, .int a0)] [] := by
  unfold PX12_state at hP
  unfold FX12_state at hR
  refine j_aload_n C dX12_state_0 rfl rfl ?_
  refine gM_46 C dX12_state_1 ?_
  refine j_iload_n C dX12_state_4 rfl rfl ?_
  obtain ⟨p3, hP⟩ := hP
  refine j_zald (k := 13) (v := (h 13 (a0.toNatClampNeg))) C dX12_state_5 (by decide) rfl p3 rfl ?_
  refine j_if_ne (tgt := 13) C dX12_state_6 (by decide) (fun c0 => ?_) (fun c0 => ?_)
  · have hP := hP.2 c0
    rw [if_neg c0] at hR
    refine j_aload_n C dX12_state_13 rfl rfl ?_
    refine gM_43 C dX12_state_14 ?_
    refine j_iload_n C dX12_state_17 rfl rfl ?_
    obtain ⟨p3, hP⟩ := hP
    refine j_iald (k := 12) (v := (h 12 (a0.toNatClampNeg))) C dX12_state_18 (by decide) rfl p3 rfl ?_
    refine j_bipush (v := 24) C dX12_state_19 (by decide) ?_
    refine j_icmp_ne (tgt := 28) C dX12_state_21 (by decide) (fun c1 => ?_) (fun c1 => ?_)
    · have hP := hP.2 c1
      rw [if_neg c1] at hR
      refine j_aload_n C dX12_state_28 rfl rfl ?_
      refine gM_50 C dX12_state_29 ?_
      refine j_iload_n C dX12_state_32 rfl rfl ?_
      obtain ⟨p3, hP⟩ := hP
      refine j_iald (k := 14) (v := (h 14 (a0.toNatClampNeg))) C dX12_state_33 (by decide) rfl p3 rfl ?_
      refine j_if_lt (tgt := 41) C dX12_state_34 (by decide) (fun c2 => ?_) (fun c2 => ?_)
      · have hP := hP.1 c2
        rw [if_pos c2] at hR
        refine j_aload_n C dX12_state_41 rfl rfl ?_
        refine j_iload_n C dX12_state_42 rfl rfl ?_
        obtain ⟨p2, hP⟩ := hP
        refine j_callV C (MX12_canGo a0 h p2) dX12_state_43 (CKX12_canGo (by decide)) ⟨rfl, rfl⟩ lk_RX12_215 in_X12_canGo se_X12_canGo (by decide) rfl rfl rfl (Nat.le_of_ble_eq_true rfl) ?_
        intro r S' h' hq
        obtain ⟨rfl, hh, rfl, hb4⟩ := hq
        rw [hh]
        refine j_if_eq (tgt := 53) C dX12_state_46 (by decide) (fun c3 => ?_) (fun c3 => ?_)
        · have hP := hP.1 c3
          rw [if_pos c3] at hR
          refine j_iconst (v := 2) C dX12_state_53 (by decide) ?_
          exact hR _ _ dX12_state_54
        · have hP := hP.2 c3
          rw [if_neg c3] at hR
          refine j_iconst (v := 1) C dX12_state_49 (by decide) ?_
          refine j_goto (tgt := 54) C dX12_state_50 (by decide) ?_
          exact hR _ _ dX12_state_54
      · have hP := hP.2 c2
        rw [if_neg c2] at hR
        refine j_iconst (v := 3) C dX12_state_37 (by decide) ?_
        refine j_goto (tgt := 54) C dX12_state_38 (by decide) ?_
        exact hR _ _ dX12_state_54
    · have hP := hP.1 c1
      rw [if_pos c1] at hR
      refine j_iconst (v := 4) C dX12_state_24 (by decide) ?_
      refine j_goto (tgt := 54) C dX12_state_25 (by decide) ?_
      exact hR _ _ dX12_state_54
  · have hP := hP.1 c0
    rw [if_pos c0] at hR
    refine j_iconst (v := 0) C dX12_state_9 (by decide) ?_
    refine j_goto (tgt := 54) C dX12_state_10 (by decide) ?_
    exact hR _ _ dX12_state_54
theorem MX12_state {l0 : Launch} {Y : fj_Y} {ad : Nat → Nat} (a0 : Int32) (h : ph_H) (hP : PX12_state a0 h) : MI l0 yX12_state cX12_state 2 (some .int) ({ frames := 3, cells := 0, slots := 0, locals := 67 } : Room) Y ad 50 SM h [.ref (ad 0), .int a0] (fun r S' h' => S' = SM ∧ h' = h ∧ r = FX12_state a0 h) := met_i (by decide) (Nat.le_of_ble_eq_true rfl) (fun _ _ _ _ => rfl) (fun X C K => j_vl (tX12_state C a0 h hP (fun pc lv hd => K _ _ _ ⟨rfl, rfl, rfl⟩ pc lv hd)) ⟨rfl, rfl, trivial⟩)

-- X12_goTo
def FX12_goTo_19  (s0 : Int32) (h : ph_H) : ph_H := (hs h 12 s0.toNatClampNeg 24)
def PX12_goTo_19  (s0 : Int32) (h : ph_H) : Prop := vp_in s0 4 ∧ (True)
set_option maxRecDepth 100000 in
set_option maxHeartbeats 4000000 in
theorem tX12_goTo_19 {X : fj_X} {Y : fj_Y} {l0 : Launch} {ad : Nat → Nat} (C : FC X Y l0 cX12_goTo 3 RX12 ({ frames := 0, cells := 0, slots := 0, locals := 0 } : Room) 0 0 none) (s0 : Int32) (h : ph_H) (hP : PX12_goTo_19  s0 h) (hR : RETv X Y ad 50 SM cX12_goTo (FX12_goTo_19  s0 h)) : FJ X Y ad 50 SM h 19 [] [.int s0, .ref (ad 12)] := by
  unfold PX12_goTo_19 at hP
  unfold FX12_goTo_19 at hR
  refine j_bipush (v := 24) C dX12_goTo_19 (by decide) ?_
  refine j_goto (tgt := 25) C dX12_goTo_21 (by decide) ?_
  obtain ⟨p2, hP⟩ := hP
  refine j_iast (k := 12) C dX12_goTo_25 (by decide) rfl p2 ?_
  exact hR _ _ dX12_goTo_26
def FX12_goTo (a0 : Int32) (a1 : Int32) (h : ph_H) : ph_H := if a1 < 0 then (FX12_goTo_19  a0 h) else (if a1 < (h 1 (a0.toNatClampNeg)) then ((hs h 12 a0.toNatClampNeg a1)) else (FX12_goTo_19  a0 h))
def PX12_goTo (a0 : Int32) (a1 : Int32) (h : ph_H) : Prop := (a1 < 0 → (PX12_goTo_19  a0 h)) ∧ (¬ a1 < 0 → (vp_in a0 4 ∧ ((a1 < (h 1 (a0.toNatClampNeg)) → (vp_in a0 4 ∧ (True))) ∧ (¬ a1 < (h 1 (a0.toNatClampNeg)) → (PX12_goTo_19  a0 h)))))
set_option maxRecDepth 100000 in
set_option maxHeartbeats 4000000 in
theorem tX12_goTo {X : fj_X} {Y : fj_Y} {l0 : Launch} {ad : Nat → Nat} (C : FC X Y l0 cX12_goTo 3 RX12 ({ frames := 0, cells := 0, slots := 0, locals := 0 } : Room) 0 0 none) (a0 : Int32) (a1 : Int32) (h : ph_H) (hP : PX12_goTo a0 a1 h) (hR : RETv X Y ad 50 SM cX12_goTo (FX12_goTo a0 a1 h)) : FJ X Y ad 50 SM h 0 [(0, .ref (ad 0)), (1, .int a0), (2, .int a1)] [] := by
  unfold PX12_goTo at hP
  unfold FX12_goTo at hR
  refine j_aload_n C dX12_goTo_0 rfl rfl ?_
  refine gM_43 C dX12_goTo_1 ?_
  refine j_iload_n C dX12_goTo_4 rfl rfl ?_
  refine j_iload_n C dX12_goTo_5 rfl rfl ?_
  refine j_if_lt (tgt := 19) C dX12_goTo_6 (by decide) (fun c0 => ?_) (fun c0 => ?_)
  · have hP := hP.1 c0
    rw [if_pos c0] at hR
    exact j_vl (tX12_goTo_19 C  a0 h hP hR) trivial
  · have hP := hP.2 c0
    rw [if_neg c0] at hR
    refine j_iload_n C dX12_goTo_9 rfl rfl ?_
    refine j_aload_n C dX12_goTo_10 rfl rfl ?_
    refine gM_7 C dX12_goTo_11 ?_
    refine j_iload_n C dX12_goTo_14 rfl rfl ?_
    obtain ⟨p4, hP⟩ := hP
    refine j_iald (k := 1) (v := (h 1 (a0.toNatClampNeg))) C dX12_goTo_15 (by decide) rfl p4 rfl ?_
    refine j_icmp_lt (tgt := 24) C dX12_goTo_16 (by decide) (fun c1 => ?_) (fun c1 => ?_)
    · have hP := hP.1 c1
      rw [if_pos c1] at hR
      refine j_iload_n C dX12_goTo_24 rfl rfl ?_
      obtain ⟨p1, hP⟩ := hP
      refine j_iast (k := 12) C dX12_goTo_25 (by decide) rfl p1 ?_
      exact hR _ _ dX12_goTo_26
    · have hP := hP.2 c1
      rw [if_neg c1] at hR
      exact j_vl (tX12_goTo_19 C  a0 h hP hR) trivial
theorem MX12_goTo {l0 : Launch} {Y : fj_Y} {ad : Nat → Nat} (a0 : Int32) (a1 : Int32) (h : ph_H) (hP : PX12_goTo a0 a1 h) : MV l0 yX12_goTo cX12_goTo 3 ({ frames := 0, cells := 0, slots := 0, locals := 0 } : Room) Y ad 50 SM h [.ref (ad 0), .int a0, .int a1] (fun S' h' => S' = SM ∧ h' = FX12_goTo a0 a1 h) := met_v (by decide) (Nat.le_of_ble_eq_true rfl) (fun X C K => j_vl (tX12_goTo C a0 a1 h hP (fun pc lv hd => K _ _ ⟨rfl, rfl⟩ pc lv hd)) ⟨rfl, rfl, rfl, trivial⟩)

-- X12_set
def FX12_set (a0 : Int32) (a1 : Int32) (a2 : Int32) (h : ph_H) : ph_H := (hs (hs h 10 a0.toNatClampNeg a1) 11 a0.toNatClampNeg a2)
def PX12_set (a0 : Int32) (a1 : Int32) (a2 : Int32) (h : ph_H) : Prop := vp_in a0 28 ∧ (vp_in a0 28 ∧ (True))
set_option maxRecDepth 100000 in
set_option maxHeartbeats 4000000 in
theorem tX12_set {X : fj_X} {Y : fj_Y} {l0 : Launch} {ad : Nat → Nat} (C : FC X Y l0 cX12_set 4 RX12 ({ frames := 0, cells := 0, slots := 0, locals := 0 } : Room) 0 0 none) (a0 : Int32) (a1 : Int32) (a2 : Int32) (h : ph_H) (hP : PX12_set a0 a1 a2 h) (hR : RETv X Y ad 50 SM cX12_set (FX12_set a0 a1 a2 h)) : FJ X Y ad 50 SM h 0 [(0, .ref (ad 0)), (1, .int a0), (2, .int a1), (3, .int a2)] [] := by
  unfold PX12_set at hP
  unfold FX12_set at hR
  refine j_aload_n C dX12_set_0 rfl rfl ?_
  refine gM_37 C dX12_set_1 ?_
  refine j_iload_n C dX12_set_4 rfl rfl ?_
  refine j_iload_n C dX12_set_5 rfl rfl ?_
  obtain ⟨p4, hP⟩ := hP
  refine j_iast (k := 10) C dX12_set_6 (by decide) rfl p4 ?_
  refine j_aload_n C dX12_set_7 rfl rfl ?_
  refine gM_40 C dX12_set_8 ?_
  refine j_iload_n C dX12_set_11 rfl rfl ?_
  refine j_iload_n C dX12_set_12 rfl rfl ?_
  obtain ⟨p10, hP⟩ := hP
  refine j_iast (k := 11) C dX12_set_13 (by decide) rfl p10 ?_
  exact hR _ _ dX12_set_14
theorem MX12_set {l0 : Launch} {Y : fj_Y} {ad : Nat → Nat} (a0 : Int32) (a1 : Int32) (a2 : Int32) (h : ph_H) (hP : PX12_set a0 a1 a2 h) : MV l0 yX12_set cX12_set 4 ({ frames := 0, cells := 0, slots := 0, locals := 0 } : Room) Y ad 50 SM h [.ref (ad 0), .int a0, .int a1, .int a2] (fun S' h' => S' = SM ∧ h' = FX12_set a0 a1 a2 h) := met_v (by decide) (Nat.le_of_ble_eq_true rfl) (fun X C K => j_vl (tX12_set C a0 a1 a2 h hP (fun pc lv hd => K _ _ ⟨rfl, rfl⟩ pc lv hd)) ⟨rfl, rfl, rfl, rfl, trivial⟩)

-- X12_newThing
def FX12_newThing_29  : Nat → Int32 → Int32 → ph_H → Int32 × ph_H
  | 0, _, _, h => (0, h)
  | q + 1, x3, x4, h => if 16 ≤ x4 then ((x3, (hs h 0 18 ((h 0 18) + 1)))) else (FX12_newThing_29  q x3 (x4 + 1) (hs h 19 ((16 * x3) + x4).toNatClampNeg 0))
def PX12_newThing_29  : Nat → Int32 → Int32 → ph_H → Prop
  | 0, _, _, _ => False
  | q + 1, x3, x4, h => (16 ≤ x4 → (True)) ∧ (¬ 16 ≤ x4 → (vp_in ((16 * x3) + x4) 192 ∧ (PX12_newThing_29  q x3 (x4 + 1) (hs h 19 ((16 * x3) + x4).toNatClampNeg 0))))
set_option maxRecDepth 100000 in
set_option maxHeartbeats 4000000 in
theorem tX12_newThing_29 {X : fj_X} {Y : fj_Y} {l0 : Launch} {ad : Nat → Nat} (C : FC X Y l0 cX12_newThing 5 RX12 ({ frames := 0, cells := 0, slots := 0, locals := 0 } : Room) 0 0 (some .int)) : ∀ (q : Nat) (x3 : Int32) (x4 : Int32) (h : ph_H), PX12_newThing_29  q x3 x4 h → RETi X Y ad 50 SM cX12_newThing (FX12_newThing_29  q x3 x4 h) → FJ X Y ad 50 SM h 29 [(0, .ref (ad 0)), (3, .int x3), (4, .int x4)] [] := by
  intro q
  induction q with
  | zero =>
    intro x3 x4 h hP hR
    exact absurd hP id
  | succ q ih =>
    intro x3 x4 h hP hR
    unfold PX12_newThing_29 at hP
    unfold FX12_newThing_29 at hR
    refine j_iload C dX12_newThing_29 rfl ?_
    refine j_bipush (v := 16) C dX12_newThing_31 (by decide) ?_
    refine j_icmp_ge (tgt := 55) C dX12_newThing_33 (by decide) (fun c0 => ?_) (fun c0 => ?_)
    · have hP := hP.1 c0
      rw [if_pos c0] at hR
      refine j_aload_n C dX12_newThing_55 rfl rfl ?_
      refine j_dup C dX12_newThing_56 rfl ?_
      refine gM_185 (v := (h 0 18)) C dX12_newThing_57 rfl ?_
      refine j_iconst (v := 1) C dX12_newThing_60 (by decide) ?_
      refine j_iadd C dX12_newThing_61 ?_
      refine pM_185 C dX12_newThing_62 ?_
      refine j_iload_n C dX12_newThing_65 rfl rfl ?_
      exact hR _ _ dX12_newThing_66
    · have hP := hP.2 c0
      rw [if_neg c0] at hR
      refine j_aload_n C dX12_newThing_36 rfl rfl ?_
      refine gM_65 C dX12_newThing_37 ?_
      refine j_bipush (v := 16) C dX12_newThing_40 (by decide) ?_
      refine j_iload_n C dX12_newThing_42 rfl rfl ?_
      refine j_imul C dX12_newThing_43 ?_
      refine j_iload C dX12_newThing_44 rfl ?_
      refine j_iadd C dX12_newThing_46 ?_
      refine j_iconst (v := 0) C dX12_newThing_47 (by decide) ?_
      obtain ⟨p8, hP⟩ := hP
      refine j_iast (k := 19) C dX12_newThing_48 (by decide) rfl p8 ?_
      refine j_iinc (v := (x4 + 1)) C dX12_newThing_49 rfl rfl (by decide) rfl ?_
      refine j_goto (tgt := 29) C dX12_newThing_52 (by decide) ?_
      exact j_vl (ih x3 (x4 + 1) (hs h 19 ((16 * x3) + x4).toNatClampNeg 0) hP hR) ⟨rfl, rfl, rfl, trivial⟩
def FX12_newThing (a0 : Int32) (a1 : Int32) (h : ph_H) : Int32 × ph_H := FX12_newThing_29 2000 (h 0 18) 0 (hs (hs (hs h 16 (h 0 18).toNatClampNeg a0) 17 (h 0 18).toNatClampNeg (-1)) 18 (h 0 18).toNatClampNeg a1)
def PX12_newThing (a0 : Int32) (a1 : Int32) (h : ph_H) : Prop := vp_in (h 0 18) 12 ∧ (vp_in (h 0 18) 12 ∧ (vp_in (h 0 18) 12 ∧ (PX12_newThing_29 2000 (h 0 18) 0 (hs (hs (hs h 16 (h 0 18).toNatClampNeg a0) 17 (h 0 18).toNatClampNeg (-1)) 18 (h 0 18).toNatClampNeg a1))))
set_option maxRecDepth 100000 in
set_option maxHeartbeats 4000000 in
theorem tX12_newThing {X : fj_X} {Y : fj_Y} {l0 : Launch} {ad : Nat → Nat} (C : FC X Y l0 cX12_newThing 5 RX12 ({ frames := 0, cells := 0, slots := 0, locals := 0 } : Room) 0 0 (some .int)) (a0 : Int32) (a1 : Int32) (h : ph_H) (hP : PX12_newThing a0 a1 h) (hR : RETi X Y ad 50 SM cX12_newThing (FX12_newThing a0 a1 h)) : FJ X Y ad 50 SM h 0 [(0, .ref (ad 0)), (1, .int a0), (2, .int a1)] [] := by
  unfold PX12_newThing at hP
  unfold FX12_newThing at hR
  refine j_aload_n C dX12_newThing_0 rfl rfl ?_
  refine gM_185 (v := (h 0 18)) C dX12_newThing_1 rfl ?_
  refine j_istore_n C dX12_newThing_4 rfl (by decide) rfl ?_
  refine j_aload_n C dX12_newThing_5 rfl rfl ?_
  refine gM_56 C dX12_newThing_6 ?_
  refine j_iload_n C dX12_newThing_9 rfl rfl ?_
  refine j_iload_n C dX12_newThing_10 rfl rfl ?_
  obtain ⟨p7, hP⟩ := hP
  refine j_iast (k := 16) C dX12_newThing_11 (by decide) rfl p7 ?_
  refine j_aload_n C dX12_newThing_12 rfl rfl ?_
  refine gM_59 C dX12_newThing_13 ?_
  refine j_iload_n C dX12_newThing_16 rfl rfl ?_
  refine j_iconst (v := (-1)) C dX12_newThing_17 (by decide) ?_
  obtain ⟨p13, hP⟩ := hP
  refine j_iast (k := 17) C dX12_newThing_18 (by decide) rfl p13 ?_
  refine j_aload_n C dX12_newThing_19 rfl rfl ?_
  refine gM_62 C dX12_newThing_20 ?_
  refine j_iload_n C dX12_newThing_23 rfl rfl ?_
  refine j_iload_n C dX12_newThing_24 rfl rfl ?_
  obtain ⟨p19, hP⟩ := hP
  refine j_iast (k := 18) C dX12_newThing_25 (by decide) rfl p19 ?_
  refine j_iconst (v := 0) C dX12_newThing_26 (by decide) ?_
  refine j_istore C dX12_newThing_27 (by decide) rfl ?_
  exact j_vl (tX12_newThing_29 C 2000 (h 0 18) 0 (hs (hs (hs h 16 (h 0 18).toNatClampNeg a0) 17 (h 0 18).toNatClampNeg (-1)) 18 (h 0 18).toNatClampNeg a1) hP hR) ⟨rfl, rfl, rfl, trivial⟩
theorem MX12_newThing {l0 : Launch} {Y : fj_Y} {ad : Nat → Nat} (a0 : Int32) (a1 : Int32) (h : ph_H) (hP : PX12_newThing a0 a1 h) : MI l0 yX12_newThing cX12_newThing 5 (some .int) ({ frames := 0, cells := 0, slots := 0, locals := 0 } : Room) Y ad 50 SM h [.ref (ad 0), .int a0, .int a1] (fun r S' h' => S' = SM ∧ h' = (FX12_newThing a0 a1 h).2 ∧ r = (FX12_newThing a0 a1 h).1) := met_i (by decide) (Nat.le_of_ble_eq_true rfl) (fun _ _ _ _ => rfl) (fun X C K => j_vl (tX12_newThing C a0 a1 h hP (fun pc lv hd => K _ _ _ ⟨rfl, rfl, rfl⟩ pc lv hd)) ⟨rfl, rfl, rfl, trivial⟩)

-- X12_why
def FX12_why_99  (h : ph_H) : Int32 := 1
def PX12_why_99  (h : ph_H) : Prop := True
set_option maxRecDepth 100000 in
set_option maxHeartbeats 4000000 in
theorem tX12_why_99 {X : fj_X} {Y : fj_Y} {l0 : Launch} {ad : Nat → Nat} (C : FC X Y l0 cX12_why 7 RX12 ({ frames := 1, cells := 0, slots := 0, locals := 25 } : Room) 0 0 (some .int)) (h : ph_H)  (hP : PX12_why_99  h) (hR : RETp X Y ad 50 SM h cX12_why (FX12_why_99  h)) : FJ X Y ad 50 SM h 99 [] [] := by
  unfold PX12_why_99 at hP
  unfold FX12_why_99 at hR
  refine j_iconst (v := 1) C dX12_why_99 (by decide) ?_
  refine j_goto (tgt := 104) C dX12_why_100 (by decide) ?_
  exact hR _ _ dX12_why_104
def FX12_why_169  (h : ph_H) : Int32 := 3
def PX12_why_169  (h : ph_H) : Prop := True
set_option maxRecDepth 100000 in
set_option maxHeartbeats 4000000 in
theorem tX12_why_169 {X : fj_X} {Y : fj_Y} {l0 : Launch} {ad : Nat → Nat} (C : FC X Y l0 cX12_why 7 RX12 ({ frames := 1, cells := 0, slots := 0, locals := 25 } : Room) 0 0 (some .int)) (h : ph_H)  (hP : PX12_why_169  h) (hR : RETp X Y ad 50 SM h cX12_why (FX12_why_169  h)) : FJ X Y ad 50 SM h 169 [] [] := by
  unfold PX12_why_169 at hP
  unfold FX12_why_169 at hR
  refine j_iconst (v := 3) C dX12_why_169 (by decide) ?_
  refine j_goto (tgt := 174) C dX12_why_170 (by decide) ?_
  exact hR _ _ dX12_why_174
def FX12_why_196  (h : ph_H) : Int32 := 1
def PX12_why_196  (h : ph_H) : Prop := True
set_option maxRecDepth 100000 in
set_option maxHeartbeats 4000000 in
theorem tX12_why_196 {X : fj_X} {Y : fj_Y} {l0 : Launch} {ad : Nat → Nat} (C : FC X Y l0 cX12_why 7 RX12 ({ frames := 1, cells := 0, slots := 0, locals := 25 } : Room) 0 0 (some .int)) (h : ph_H)  (hP : PX12_why_196  h) (hR : RETp X Y ad 50 SM h cX12_why (FX12_why_196  h)) : FJ X Y ad 50 SM h 196 [] [] := by
  unfold PX12_why_196 at hP
  unfold FX12_why_196 at hR
  refine j_iconst (v := 1) C dX12_why_196 (by decide) ?_
  refine j_goto (tgt := 235) C dX12_why_197 (by decide) ?_
  exact hR _ _ dX12_why_235
def FX12_why_266  (h : ph_H) : Int32 := 1
def PX12_why_266  (h : ph_H) : Prop := True
set_option maxRecDepth 100000 in
set_option maxHeartbeats 4000000 in
theorem tX12_why_266 {X : fj_X} {Y : fj_Y} {l0 : Launch} {ad : Nat → Nat} (C : FC X Y l0 cX12_why 7 RX12 ({ frames := 1, cells := 0, slots := 0, locals := 25 } : Room) 0 0 (some .int)) (h : ph_H)  (hP : PX12_why_266  h) (hR : RETp X Y ad 50 SM h cX12_why (FX12_why_266  h)) : FJ X Y ad 50 SM h 266 [] [] := by
  unfold PX12_why_266 at hP
  unfold FX12_why_266 at hR
  refine j_iconst (v := 1) C dX12_why_266 (by decide) ?_
  refine j_goto (tgt := 304) C dX12_why_267 (by decide) ?_
  exact hR _ _ dX12_why_304
def FX12_why (a0 : Int32) (a1 : Int32) (a2 : Int32) (a3 : Int32) (a4 : Int32) (a5 : Int32) (h : ph_H) : Int32 := if a1 = 3 then (if (h 10 (a2.toNatClampNeg)) = 0 then (if (h 10 (a3.toNatClampNeg)) = 0 then (0) else (FX12_why_99  h)) else (FX12_why_99  h)) else (if a1 = 4 then (if (h 10 (a2.toNatClampNeg)) = 0 then (if (h 10 (a3.toNatClampNeg)) = 0 then (0) else (FX12_why_99  h)) else (FX12_why_99  h)) else (if a1 = 5 then (if (h 10 (a2.toNatClampNeg)) = 0 then (if (h 10 (a3.toNatClampNeg)) = 0 then (0) else (FX12_why_99  h)) else (FX12_why_99  h)) else (if a1 = 6 then (0) else (if a1 = 7 then (if (h 10 (a2.toNatClampNeg)) = 0 then (0) else (1)) else (if a1 = 8 then (if (h 10 (a3.toNatClampNeg)) = 0 then (if 0 ≤ (h 11 (a3.toNatClampNeg)) then (if 16 < (h 11 (a3.toNatClampNeg)) then (FX12_why_169  h) else (if (h 0 18) = 12 then (FX12_why_169  h) else (0))) else (2)) else (1)) else (if a1 = 9 then (if (h 10 (a3.toNatClampNeg)) = 1 then (if (h 10 (a4.toNatClampNeg)) = 0 then (if (FX12_isIn ((h 11 (a4.toNatClampNeg)).toInt64) 0 (((h 18 ((h 11 (a3.toNatClampNeg)).toNatClampNeg)) - 1).toInt64)) = 0 then (4) else (0)) else (FX12_why_196  h)) else (FX12_why_196  h)) else (if a1 = 10 then (if (h 10 (a2.toNatClampNeg)) = 1 then (if (h 10 (a3.toNatClampNeg)) = 0 then (if (h 10 (a4.toNatClampNeg)) = 0 then (if (FX12_isIn ((h 11 (a3.toNatClampNeg)).toInt64) 0 (((h 18 ((h 11 (a2.toNatClampNeg)).toNatClampNeg)) - 1).toInt64)) = 0 then (4) else (0)) else (FX12_why_266  h)) else (FX12_why_266  h)) else (FX12_why_266  h)) else (if a1 = 11 then (if (h 0 18) = 12 then (3) else (0)) else (if a1 = 12 then (if (FX12_isLock a2 h) = 0 then (1) else (if (h 17 ((h 11 (a2.toNatClampNeg)).toNatClampNeg)) = a0 then (5) else (0))) else (if a1 = 13 then (if (FX12_isLock a2 h) = 0 then (1) else (if (h 17 ((h 11 (a2.toNatClampNeg)).toNatClampNeg)) = a0 then (0) else (6))) else (if a1 = 14 then (if (h 10 (a2.toNatClampNeg)) = 3 then (if (h 17 ((h 11 (a2.toNatClampNeg)).toNatClampNeg)) = a0 then (0) else (6)) else (1)) else (if a1 = 15 then (if (h 10 (a2.toNatClampNeg)) = 3 then (if (h 17 ((h 11 (a2.toNatClampNeg)).toNatClampNeg)) = a0 then (0) else (6)) else (1)) else (if a1 = 16 then (if (h 0 33) = 0 then (if (h 0 23) = (h 0 7) then (7) else (0)) else (0)) else (if a1 = 17 then (0) else (if a1 = 18 then ((10 + (FX12_modulo a5 10))) else (0))))))))))))))))
def PX12_why (a0 : Int32) (a1 : Int32) (a2 : Int32) (a3 : Int32) (a4 : Int32) (a5 : Int32) (h : ph_H) : Prop := (a1 = 3 → (vp_in a2 28 ∧ (((h 10 (a2.toNatClampNeg)) = 0 → (vp_in a3 28 ∧ (((h 10 (a3.toNatClampNeg)) = 0 → (True)) ∧ (¬ (h 10 (a3.toNatClampNeg)) = 0 → (PX12_why_99  h))))) ∧ (¬ (h 10 (a2.toNatClampNeg)) = 0 → (PX12_why_99  h))))) ∧ (¬ a1 = 3 → ((a1 = 4 → (vp_in a2 28 ∧ (((h 10 (a2.toNatClampNeg)) = 0 → (vp_in a3 28 ∧ (((h 10 (a3.toNatClampNeg)) = 0 → (True)) ∧ (¬ (h 10 (a3.toNatClampNeg)) = 0 → (PX12_why_99  h))))) ∧ (¬ (h 10 (a2.toNatClampNeg)) = 0 → (PX12_why_99  h))))) ∧ (¬ a1 = 4 → ((a1 = 5 → (vp_in a2 28 ∧ (((h 10 (a2.toNatClampNeg)) = 0 → (vp_in a3 28 ∧ (((h 10 (a3.toNatClampNeg)) = 0 → (True)) ∧ (¬ (h 10 (a3.toNatClampNeg)) = 0 → (PX12_why_99  h))))) ∧ (¬ (h 10 (a2.toNatClampNeg)) = 0 → (PX12_why_99  h))))) ∧ (¬ a1 = 5 → ((a1 = 6 → (True)) ∧ (¬ a1 = 6 → ((a1 = 7 → (vp_in a2 28 ∧ (((h 10 (a2.toNatClampNeg)) = 0 → (True)) ∧ (¬ (h 10 (a2.toNatClampNeg)) = 0 → (True))))) ∧ (¬ a1 = 7 → ((a1 = 8 → (vp_in a3 28 ∧ (((h 10 (a3.toNatClampNeg)) = 0 → (vp_in a3 28 ∧ ((0 ≤ (h 11 (a3.toNatClampNeg)) → (vp_in a3 28 ∧ ((16 < (h 11 (a3.toNatClampNeg)) → (PX12_why_169  h)) ∧ (¬ 16 < (h 11 (a3.toNatClampNeg)) → (((h 0 18) = 12 → (PX12_why_169  h)) ∧ (¬ (h 0 18) = 12 → (True))))))) ∧ (¬ 0 ≤ (h 11 (a3.toNatClampNeg)) → (True))))) ∧ (¬ (h 10 (a3.toNatClampNeg)) = 0 → (True))))) ∧ (¬ a1 = 8 → ((a1 = 9 → (vp_in a3 28 ∧ (((h 10 (a3.toNatClampNeg)) = 1 → (vp_in a4 28 ∧ (((h 10 (a4.toNatClampNeg)) = 0 → (vp_in a4 28 ∧ (vp_in a3 28 ∧ (vp_in (h 11 (a3.toNatClampNeg)) 12 ∧ ((PX12_isIn ((h 11 (a4.toNatClampNeg)).toInt64) 0 (((h 18 ((h 11 (a3.toNatClampNeg)).toNatClampNeg)) - 1).toInt64)) ∧ (((FX12_isIn ((h 11 (a4.toNatClampNeg)).toInt64) 0 (((h 18 ((h 11 (a3.toNatClampNeg)).toNatClampNeg)) - 1).toInt64)) = 0 → (True)) ∧ (¬ (FX12_isIn ((h 11 (a4.toNatClampNeg)).toInt64) 0 (((h 18 ((h 11 (a3.toNatClampNeg)).toNatClampNeg)) - 1).toInt64)) = 0 → (True)))))))) ∧ (¬ (h 10 (a4.toNatClampNeg)) = 0 → (PX12_why_196  h))))) ∧ (¬ (h 10 (a3.toNatClampNeg)) = 1 → (PX12_why_196  h))))) ∧ (¬ a1 = 9 → ((a1 = 10 → (vp_in a2 28 ∧ (((h 10 (a2.toNatClampNeg)) = 1 → (vp_in a3 28 ∧ (((h 10 (a3.toNatClampNeg)) = 0 → (vp_in a4 28 ∧ (((h 10 (a4.toNatClampNeg)) = 0 → (vp_in a3 28 ∧ (vp_in a2 28 ∧ (vp_in (h 11 (a2.toNatClampNeg)) 12 ∧ ((PX12_isIn ((h 11 (a3.toNatClampNeg)).toInt64) 0 (((h 18 ((h 11 (a2.toNatClampNeg)).toNatClampNeg)) - 1).toInt64)) ∧ (((FX12_isIn ((h 11 (a3.toNatClampNeg)).toInt64) 0 (((h 18 ((h 11 (a2.toNatClampNeg)).toNatClampNeg)) - 1).toInt64)) = 0 → (True)) ∧ (¬ (FX12_isIn ((h 11 (a3.toNatClampNeg)).toInt64) 0 (((h 18 ((h 11 (a2.toNatClampNeg)).toNatClampNeg)) - 1).toInt64)) = 0 → (True)))))))) ∧ (¬ (h 10 (a4.toNatClampNeg)) = 0 → (PX12_why_266  h))))) ∧ (¬ (h 10 (a3.toNatClampNeg)) = 0 → (PX12_why_266  h))))) ∧ (¬ (h 10 (a2.toNatClampNeg)) = 1 → (PX12_why_266  h))))) ∧ (¬ a1 = 10 → ((a1 = 11 → (((h 0 18) = 12 → (True)) ∧ (¬ (h 0 18) = 12 → (True)))) ∧ (¬ a1 = 11 → ((a1 = 12 → ((PX12_isLock a2 h) ∧ (((FX12_isLock a2 h) = 0 → (True)) ∧ (¬ (FX12_isLock a2 h) = 0 → (vp_in a2 28 ∧ (vp_in (h 11 (a2.toNatClampNeg)) 12 ∧ (((h 17 ((h 11 (a2.toNatClampNeg)).toNatClampNeg)) = a0 → (True)) ∧ (¬ (h 17 ((h 11 (a2.toNatClampNeg)).toNatClampNeg)) = a0 → (True))))))))) ∧ (¬ a1 = 12 → ((a1 = 13 → ((PX12_isLock a2 h) ∧ (((FX12_isLock a2 h) = 0 → (True)) ∧ (¬ (FX12_isLock a2 h) = 0 → (vp_in a2 28 ∧ (vp_in (h 11 (a2.toNatClampNeg)) 12 ∧ (((h 17 ((h 11 (a2.toNatClampNeg)).toNatClampNeg)) = a0 → (True)) ∧ (¬ (h 17 ((h 11 (a2.toNatClampNeg)).toNatClampNeg)) = a0 → (True))))))))) ∧ (¬ a1 = 13 → ((a1 = 14 → (vp_in a2 28 ∧ (((h 10 (a2.toNatClampNeg)) = 3 → (vp_in a2 28 ∧ (vp_in (h 11 (a2.toNatClampNeg)) 12 ∧ (((h 17 ((h 11 (a2.toNatClampNeg)).toNatClampNeg)) = a0 → (True)) ∧ (¬ (h 17 ((h 11 (a2.toNatClampNeg)).toNatClampNeg)) = a0 → (True)))))) ∧ (¬ (h 10 (a2.toNatClampNeg)) = 3 → (True))))) ∧ (¬ a1 = 14 → ((a1 = 15 → (vp_in a2 28 ∧ (((h 10 (a2.toNatClampNeg)) = 3 → (vp_in a2 28 ∧ (vp_in (h 11 (a2.toNatClampNeg)) 12 ∧ (((h 17 ((h 11 (a2.toNatClampNeg)).toNatClampNeg)) = a0 → (True)) ∧ (¬ (h 17 ((h 11 (a2.toNatClampNeg)).toNatClampNeg)) = a0 → (True)))))) ∧ (¬ (h 10 (a2.toNatClampNeg)) = 3 → (True))))) ∧ (¬ a1 = 15 → ((a1 = 16 → (((h 0 33) = 0 → (((h 0 23) = (h 0 7) → (True)) ∧ (¬ (h 0 23) = (h 0 7) → (True)))) ∧ (¬ (h 0 33) = 0 → (True)))) ∧ (¬ a1 = 16 → ((a1 = 17 → (True)) ∧ (¬ a1 = 17 → ((a1 = 18 → ((PX12_modulo a5 10) ∧ (True))) ∧ (¬ a1 = 18 → (True))))))))))))))))))))))))))))))))
set_option maxRecDepth 100000 in
set_option maxHeartbeats 4000000 in
theorem tX12_why {X : fj_X} {Y : fj_Y} {l0 : Launch} {ad : Nat → Nat} (C : FC X Y l0 cX12_why 7 RX12 ({ frames := 1, cells := 0, slots := 0, locals := 25 } : Room) 0 0 (some .int)) (a0 : Int32) (a1 : Int32) (a2 : Int32) (a3 : Int32) (a4 : Int32) (a5 : Int32) (h : ph_H) (hP : PX12_why a0 a1 a2 a3 a4 a5 h) (hR : RETp X Y ad 50 SM h cX12_why (FX12_why a0 a1 a2 a3 a4 a5 h)) : FJ X Y ad 50 SM h 0 [(0, .ref (ad 0)), (1, .int a0), (2, .int a1), (3, .int a2), (4, .int a3), (5, .int a4), (6, .int a5)] [] := by
  unfold PX12_why at hP
  unfold FX12_why at hR
  refine j_iload_n C dX12_why_0 rfl rfl ?_
  rcases Classical.em (a1 = 3) with c0 | c0
  · have hP := hP.1 c0
    rw [if_pos c0] at hR
    refine j_tableIn (tgt := 80) (off := 79) C dX12_why_1 (by rw [c0]; decide) (by rw [c0]; decide) (by rw [c0]; decide) (by decide) ?_
    refine j_aload_n C dX12_why_80 rfl rfl ?_
    refine gM_37 C dX12_why_81 ?_
    refine j_iload_n C dX12_why_84 rfl rfl ?_
    obtain ⟨p3, hP⟩ := hP
    refine j_iald (k := 10) (v := (h 10 (a2.toNatClampNeg))) C dX12_why_85 (by decide) rfl p3 rfl ?_
    refine j_if_ne (tgt := 99) C dX12_why_86 (by decide) (fun c1 => ?_) (fun c1 => ?_)
    · have hP := hP.2 c1
      rw [if_neg c1] at hR
      exact j_vl (tX12_why_99 C h  hP hR) trivial
    · have hP := hP.1 c1
      rw [if_pos c1] at hR
      refine j_aload_n C dX12_why_89 rfl rfl ?_
      refine gM_37 C dX12_why_90 ?_
      refine j_iload C dX12_why_93 rfl ?_
      obtain ⟨p3, hP⟩ := hP
      refine j_iald (k := 10) (v := (h 10 (a3.toNatClampNeg))) C dX12_why_95 (by decide) rfl p3 rfl ?_
      refine j_if_eq (tgt := 103) C dX12_why_96 (by decide) (fun c2 => ?_) (fun c2 => ?_)
      · have hP := hP.1 c2
        rw [if_pos c2] at hR
        refine j_iconst (v := 0) C dX12_why_103 (by decide) ?_
        exact hR _ _ dX12_why_104
      · have hP := hP.2 c2
        rw [if_neg c2] at hR
        exact j_vl (tX12_why_99 C h  hP hR) trivial
  have hP := hP.2 c0
  rw [if_neg c0] at hR
  rcases Classical.em (a1 = 4) with c1 | c1
  · have hP := hP.1 c1
    rw [if_pos c1] at hR
    refine j_tableIn (tgt := 80) (off := 79) C dX12_why_1 (by rw [c1]; decide) (by rw [c1]; decide) (by rw [c1]; decide) (by decide) ?_
    refine j_aload_n C dX12_why_80 rfl rfl ?_
    refine gM_37 C dX12_why_81 ?_
    refine j_iload_n C dX12_why_84 rfl rfl ?_
    obtain ⟨p3, hP⟩ := hP
    refine j_iald (k := 10) (v := (h 10 (a2.toNatClampNeg))) C dX12_why_85 (by decide) rfl p3 rfl ?_
    refine j_if_ne (tgt := 99) C dX12_why_86 (by decide) (fun c2 => ?_) (fun c2 => ?_)
    · have hP := hP.2 c2
      rw [if_neg c2] at hR
      exact j_vl (tX12_why_99 C h  hP hR) trivial
    · have hP := hP.1 c2
      rw [if_pos c2] at hR
      refine j_aload_n C dX12_why_89 rfl rfl ?_
      refine gM_37 C dX12_why_90 ?_
      refine j_iload C dX12_why_93 rfl ?_
      obtain ⟨p3, hP⟩ := hP
      refine j_iald (k := 10) (v := (h 10 (a3.toNatClampNeg))) C dX12_why_95 (by decide) rfl p3 rfl ?_
      refine j_if_eq (tgt := 103) C dX12_why_96 (by decide) (fun c3 => ?_) (fun c3 => ?_)
      · have hP := hP.1 c3
        rw [if_pos c3] at hR
        refine j_iconst (v := 0) C dX12_why_103 (by decide) ?_
        exact hR _ _ dX12_why_104
      · have hP := hP.2 c3
        rw [if_neg c3] at hR
        exact j_vl (tX12_why_99 C h  hP hR) trivial
  have hP := hP.2 c1
  rw [if_neg c1] at hR
  rcases Classical.em (a1 = 5) with c2 | c2
  · have hP := hP.1 c2
    rw [if_pos c2] at hR
    refine j_tableIn (tgt := 80) (off := 79) C dX12_why_1 (by rw [c2]; decide) (by rw [c2]; decide) (by rw [c2]; decide) (by decide) ?_
    refine j_aload_n C dX12_why_80 rfl rfl ?_
    refine gM_37 C dX12_why_81 ?_
    refine j_iload_n C dX12_why_84 rfl rfl ?_
    obtain ⟨p3, hP⟩ := hP
    refine j_iald (k := 10) (v := (h 10 (a2.toNatClampNeg))) C dX12_why_85 (by decide) rfl p3 rfl ?_
    refine j_if_ne (tgt := 99) C dX12_why_86 (by decide) (fun c3 => ?_) (fun c3 => ?_)
    · have hP := hP.2 c3
      rw [if_neg c3] at hR
      exact j_vl (tX12_why_99 C h  hP hR) trivial
    · have hP := hP.1 c3
      rw [if_pos c3] at hR
      refine j_aload_n C dX12_why_89 rfl rfl ?_
      refine gM_37 C dX12_why_90 ?_
      refine j_iload C dX12_why_93 rfl ?_
      obtain ⟨p3, hP⟩ := hP
      refine j_iald (k := 10) (v := (h 10 (a3.toNatClampNeg))) C dX12_why_95 (by decide) rfl p3 rfl ?_
      refine j_if_eq (tgt := 103) C dX12_why_96 (by decide) (fun c4 => ?_) (fun c4 => ?_)
      · have hP := hP.1 c4
        rw [if_pos c4] at hR
        refine j_iconst (v := 0) C dX12_why_103 (by decide) ?_
        exact hR _ _ dX12_why_104
      · have hP := hP.2 c4
        rw [if_neg c4] at hR
        exact j_vl (tX12_why_99 C h  hP hR) trivial
  have hP := hP.2 c2
  rw [if_neg c2] at hR
  rcases Classical.em (a1 = 6) with c3 | c3
  · have hP := hP.1 c3
    rw [if_pos c3] at hR
    refine j_tableIn (tgt := 461) (off := 460) C dX12_why_1 (by rw [c3]; decide) (by rw [c3]; decide) (by rw [c3]; decide) (by decide) ?_
    refine j_iconst (v := 0) C dX12_why_461 (by decide) ?_
    exact hR _ _ dX12_why_462
  have hP := hP.2 c3
  rw [if_neg c3] at hR
  rcases Classical.em (a1 = 7) with c4 | c4
  · have hP := hP.1 c4
    rw [if_pos c4] at hR
    refine j_tableIn (tgt := 105) (off := 104) C dX12_why_1 (by rw [c4]; decide) (by rw [c4]; decide) (by rw [c4]; decide) (by decide) ?_
    refine j_aload_n C dX12_why_105 rfl rfl ?_
    refine gM_37 C dX12_why_106 ?_
    refine j_iload_n C dX12_why_109 rfl rfl ?_
    obtain ⟨p3, hP⟩ := hP
    refine j_iald (k := 10) (v := (h 10 (a2.toNatClampNeg))) C dX12_why_110 (by decide) rfl p3 rfl ?_
    refine j_if_eq (tgt := 118) C dX12_why_111 (by decide) (fun c5 => ?_) (fun c5 => ?_)
    · have hP := hP.1 c5
      rw [if_pos c5] at hR
      refine j_iconst (v := 0) C dX12_why_118 (by decide) ?_
      exact hR _ _ dX12_why_119
    · have hP := hP.2 c5
      rw [if_neg c5] at hR
      refine j_iconst (v := 1) C dX12_why_114 (by decide) ?_
      refine j_goto (tgt := 119) C dX12_why_115 (by decide) ?_
      exact hR _ _ dX12_why_119
  have hP := hP.2 c4
  rw [if_neg c4] at hR
  rcases Classical.em (a1 = 8) with c5 | c5
  · have hP := hP.1 c5
    rw [if_pos c5] at hR
    refine j_tableIn (tgt := 120) (off := 119) C dX12_why_1 (by rw [c5]; decide) (by rw [c5]; decide) (by rw [c5]; decide) (by decide) ?_
    refine j_aload_n C dX12_why_120 rfl rfl ?_
    refine gM_37 C dX12_why_121 ?_
    refine j_iload C dX12_why_124 rfl ?_
    obtain ⟨p3, hP⟩ := hP
    refine j_iald (k := 10) (v := (h 10 (a3.toNatClampNeg))) C dX12_why_126 (by decide) rfl p3 rfl ?_
    refine j_if_eq (tgt := 134) C dX12_why_127 (by decide) (fun c6 => ?_) (fun c6 => ?_)
    · have hP := hP.1 c6
      rw [if_pos c6] at hR
      refine j_aload_n C dX12_why_134 rfl rfl ?_
      refine gM_40 C dX12_why_135 ?_
      refine j_iload C dX12_why_138 rfl ?_
      obtain ⟨p3, hP⟩ := hP
      refine j_iald (k := 11) (v := (h 11 (a3.toNatClampNeg))) C dX12_why_140 (by decide) rfl p3 rfl ?_
      refine j_if_ge (tgt := 148) C dX12_why_141 (by decide) (fun c7 => ?_) (fun c7 => ?_)
      · have hP := hP.1 c7
        rw [if_pos c7] at hR
        refine j_aload_n C dX12_why_148 rfl rfl ?_
        refine gM_40 C dX12_why_149 ?_
        refine j_iload C dX12_why_152 rfl ?_
        obtain ⟨p3, hP⟩ := hP
        refine j_iald (k := 11) (v := (h 11 (a3.toNatClampNeg))) C dX12_why_154 (by decide) rfl p3 rfl ?_
        refine j_bipush (v := 16) C dX12_why_155 (by decide) ?_
        refine j_icmp_gt (tgt := 169) C dX12_why_157 (by decide) (fun c8 => ?_) (fun c8 => ?_)
        · have hP := hP.1 c8
          rw [if_pos c8] at hR
          exact j_vl (tX12_why_169 C h  hP hR) trivial
        · have hP := hP.2 c8
          rw [if_neg c8] at hR
          refine j_aload_n C dX12_why_160 rfl rfl ?_
          refine gM_185 (v := (h 0 18)) C dX12_why_161 rfl ?_
          refine j_bipush (v := 12) C dX12_why_164 (by decide) ?_
          refine j_icmp_ne (tgt := 173) C dX12_why_166 (by decide) (fun c9 => ?_) (fun c9 => ?_)
          · have hP := hP.2 c9
            rw [if_neg c9] at hR
            refine j_iconst (v := 0) C dX12_why_173 (by decide) ?_
            exact hR _ _ dX12_why_174
          · have hP := hP.1 c9
            rw [if_pos c9] at hR
            exact j_vl (tX12_why_169 C h  hP hR) trivial
      · have hP := hP.2 c7
        rw [if_neg c7] at hR
        refine j_iconst (v := 2) C dX12_why_144 (by decide) ?_
        refine j_goto (tgt := 174) C dX12_why_145 (by decide) ?_
        exact hR _ _ dX12_why_174
    · have hP := hP.2 c6
      rw [if_neg c6] at hR
      refine j_iconst (v := 1) C dX12_why_130 (by decide) ?_
      refine j_goto (tgt := 174) C dX12_why_131 (by decide) ?_
      exact hR _ _ dX12_why_174
  have hP := hP.2 c5
  rw [if_neg c5] at hR
  rcases Classical.em (a1 = 9) with c6 | c6
  · have hP := hP.1 c6
    rw [if_pos c6] at hR
    refine j_tableIn (tgt := 175) (off := 174) C dX12_why_1 (by rw [c6]; decide) (by rw [c6]; decide) (by rw [c6]; decide) (by decide) ?_
    refine j_aload_n C dX12_why_175 rfl rfl ?_
    refine gM_37 C dX12_why_176 ?_
    refine j_iload C dX12_why_179 rfl ?_
    obtain ⟨p3, hP⟩ := hP
    refine j_iald (k := 10) (v := (h 10 (a3.toNatClampNeg))) C dX12_why_181 (by decide) rfl p3 rfl ?_
    refine j_iconst (v := 1) C dX12_why_182 (by decide) ?_
    refine j_icmp_ne (tgt := 196) C dX12_why_183 (by decide) (fun c7 => ?_) (fun c7 => ?_)
    · have hP := hP.2 c7
      rw [if_neg c7] at hR
      exact j_vl (tX12_why_196 C h  hP hR) trivial
    · have hP := hP.1 c7
      rw [if_pos c7] at hR
      refine j_aload_n C dX12_why_186 rfl rfl ?_
      refine gM_37 C dX12_why_187 ?_
      refine j_iload C dX12_why_190 rfl ?_
      obtain ⟨p3, hP⟩ := hP
      refine j_iald (k := 10) (v := (h 10 (a4.toNatClampNeg))) C dX12_why_192 (by decide) rfl p3 rfl ?_
      refine j_if_eq (tgt := 200) C dX12_why_193 (by decide) (fun c8 => ?_) (fun c8 => ?_)
      · have hP := hP.1 c8
        rw [if_pos c8] at hR
        refine j_aload_n C dX12_why_200 rfl rfl ?_
        refine gM_40 C dX12_why_201 ?_
        refine j_iload C dX12_why_204 rfl ?_
        obtain ⟨p3, hP⟩ := hP
        refine j_iald (k := 11) (v := (h 11 (a4.toNatClampNeg))) C dX12_why_206 (by decide) rfl p3 rfl ?_
        refine j_i2l C dX12_why_207 ?_
        refine j_lconst (v := 0) C dX12_why_208 (by decide) ?_
        refine j_aload_n C dX12_why_209 rfl rfl ?_
        refine gM_62 C dX12_why_210 ?_
        refine j_aload_n C dX12_why_213 rfl rfl ?_
        refine gM_40 C dX12_why_214 ?_
        refine j_iload C dX12_why_217 rfl ?_
        obtain ⟨p12, hP⟩ := hP
        refine j_iald (k := 11) (v := (h 11 (a3.toNatClampNeg))) C dX12_why_219 (by decide) rfl p12 rfl ?_
        obtain ⟨p14, hP⟩ := hP
        refine j_iald (k := 18) (v := (h 18 ((h 11 (a3.toNatClampNeg)).toNatClampNeg))) C dX12_why_220 (by decide) rfl p14 rfl ?_
        refine j_iconst (v := 1) C dX12_why_221 (by decide) ?_
        refine j_isub C dX12_why_222 ?_
        refine j_i2l C dX12_why_223 ?_
        obtain ⟨p19, hP⟩ := hP
        refine j_callS C (MX12_isIn ((h 11 (a4.toNatClampNeg)).toInt64) 0 (((h 18 ((h 11 (a3.toNatClampNeg)).toNatClampNeg)) - 1).toInt64) h p19) dX12_why_224 (CKX12_isIn (by decide)) ⟨rfl, rfl⟩ lk_RX12_169 st_X12_isIn rfl (Nat.le_of_ble_eq_true rfl) ?_
        intro r S' h' hq
        obtain ⟨rfl, hh, rfl, hb21⟩ := hq
        rw [hh]
        refine j_if_ne (tgt := 234) C dX12_why_227 (by decide) (fun c9 => ?_) (fun c9 => ?_)
        · have hP := hP.2 c9
          rw [if_neg c9] at hR
          refine j_iconst (v := 0) C dX12_why_234 (by decide) ?_
          exact hR _ _ dX12_why_235
        · have hP := hP.1 c9
          rw [if_pos c9] at hR
          refine j_iconst (v := 4) C dX12_why_230 (by decide) ?_
          refine j_goto (tgt := 235) C dX12_why_231 (by decide) ?_
          exact hR _ _ dX12_why_235
      · have hP := hP.2 c8
        rw [if_neg c8] at hR
        exact j_vl (tX12_why_196 C h  hP hR) trivial
  have hP := hP.2 c6
  rw [if_neg c6] at hR
  rcases Classical.em (a1 = 10) with c7 | c7
  · have hP := hP.1 c7
    rw [if_pos c7] at hR
    refine j_tableIn (tgt := 236) (off := 235) C dX12_why_1 (by rw [c7]; decide) (by rw [c7]; decide) (by rw [c7]; decide) (by decide) ?_
    refine j_aload_n C dX12_why_236 rfl rfl ?_
    refine gM_37 C dX12_why_237 ?_
    refine j_iload_n C dX12_why_240 rfl rfl ?_
    obtain ⟨p3, hP⟩ := hP
    refine j_iald (k := 10) (v := (h 10 (a2.toNatClampNeg))) C dX12_why_241 (by decide) rfl p3 rfl ?_
    refine j_iconst (v := 1) C dX12_why_242 (by decide) ?_
    refine j_icmp_ne (tgt := 266) C dX12_why_243 (by decide) (fun c8 => ?_) (fun c8 => ?_)
    · have hP := hP.2 c8
      rw [if_neg c8] at hR
      exact j_vl (tX12_why_266 C h  hP hR) trivial
    · have hP := hP.1 c8
      rw [if_pos c8] at hR
      refine j_aload_n C dX12_why_246 rfl rfl ?_
      refine gM_37 C dX12_why_247 ?_
      refine j_iload C dX12_why_250 rfl ?_
      obtain ⟨p3, hP⟩ := hP
      refine j_iald (k := 10) (v := (h 10 (a3.toNatClampNeg))) C dX12_why_252 (by decide) rfl p3 rfl ?_
      refine j_if_ne (tgt := 266) C dX12_why_253 (by decide) (fun c9 => ?_) (fun c9 => ?_)
      · have hP := hP.2 c9
        rw [if_neg c9] at hR
        exact j_vl (tX12_why_266 C h  hP hR) trivial
      · have hP := hP.1 c9
        rw [if_pos c9] at hR
        refine j_aload_n C dX12_why_256 rfl rfl ?_
        refine gM_37 C dX12_why_257 ?_
        refine j_iload C dX12_why_260 rfl ?_
        obtain ⟨p3, hP⟩ := hP
        refine j_iald (k := 10) (v := (h 10 (a4.toNatClampNeg))) C dX12_why_262 (by decide) rfl p3 rfl ?_
        refine j_if_eq (tgt := 270) C dX12_why_263 (by decide) (fun c10 => ?_) (fun c10 => ?_)
        · have hP := hP.1 c10
          rw [if_pos c10] at hR
          refine j_aload_n C dX12_why_270 rfl rfl ?_
          refine gM_40 C dX12_why_271 ?_
          refine j_iload C dX12_why_274 rfl ?_
          obtain ⟨p3, hP⟩ := hP
          refine j_iald (k := 11) (v := (h 11 (a3.toNatClampNeg))) C dX12_why_276 (by decide) rfl p3 rfl ?_
          refine j_i2l C dX12_why_277 ?_
          refine j_lconst (v := 0) C dX12_why_278 (by decide) ?_
          refine j_aload_n C dX12_why_279 rfl rfl ?_
          refine gM_62 C dX12_why_280 ?_
          refine j_aload_n C dX12_why_283 rfl rfl ?_
          refine gM_40 C dX12_why_284 ?_
          refine j_iload_n C dX12_why_287 rfl rfl ?_
          obtain ⟨p12, hP⟩ := hP
          refine j_iald (k := 11) (v := (h 11 (a2.toNatClampNeg))) C dX12_why_288 (by decide) rfl p12 rfl ?_
          obtain ⟨p14, hP⟩ := hP
          refine j_iald (k := 18) (v := (h 18 ((h 11 (a2.toNatClampNeg)).toNatClampNeg))) C dX12_why_289 (by decide) rfl p14 rfl ?_
          refine j_iconst (v := 1) C dX12_why_290 (by decide) ?_
          refine j_isub C dX12_why_291 ?_
          refine j_i2l C dX12_why_292 ?_
          obtain ⟨p19, hP⟩ := hP
          refine j_callS C (MX12_isIn ((h 11 (a3.toNatClampNeg)).toInt64) 0 (((h 18 ((h 11 (a2.toNatClampNeg)).toNatClampNeg)) - 1).toInt64) h p19) dX12_why_293 (CKX12_isIn (by decide)) ⟨rfl, rfl⟩ lk_RX12_169 st_X12_isIn rfl (Nat.le_of_ble_eq_true rfl) ?_
          intro r S' h' hq
          obtain ⟨rfl, hh, rfl, hb21⟩ := hq
          rw [hh]
          refine j_if_ne (tgt := 303) C dX12_why_296 (by decide) (fun c11 => ?_) (fun c11 => ?_)
          · have hP := hP.2 c11
            rw [if_neg c11] at hR
            refine j_iconst (v := 0) C dX12_why_303 (by decide) ?_
            exact hR _ _ dX12_why_304
          · have hP := hP.1 c11
            rw [if_pos c11] at hR
            refine j_iconst (v := 4) C dX12_why_299 (by decide) ?_
            refine j_goto (tgt := 304) C dX12_why_300 (by decide) ?_
            exact hR _ _ dX12_why_304
        · have hP := hP.2 c10
          rw [if_neg c10] at hR
          exact j_vl (tX12_why_266 C h  hP hR) trivial
  have hP := hP.2 c7
  rw [if_neg c7] at hR
  rcases Classical.em (a1 = 11) with c8 | c8
  · have hP := hP.1 c8
    rw [if_pos c8] at hR
    refine j_tableIn (tgt := 305) (off := 304) C dX12_why_1 (by rw [c8]; decide) (by rw [c8]; decide) (by rw [c8]; decide) (by decide) ?_
    refine j_aload_n C dX12_why_305 rfl rfl ?_
    refine gM_185 (v := (h 0 18)) C dX12_why_306 rfl ?_
    refine j_bipush (v := 12) C dX12_why_309 (by decide) ?_
    refine j_icmp_ne (tgt := 318) C dX12_why_311 (by decide) (fun c9 => ?_) (fun c9 => ?_)
    · have hP := hP.2 c9
      rw [if_neg c9] at hR
      refine j_iconst (v := 0) C dX12_why_318 (by decide) ?_
      exact hR _ _ dX12_why_319
    · have hP := hP.1 c9
      rw [if_pos c9] at hR
      refine j_iconst (v := 3) C dX12_why_314 (by decide) ?_
      refine j_goto (tgt := 319) C dX12_why_315 (by decide) ?_
      exact hR _ _ dX12_why_319
  have hP := hP.2 c8
  rw [if_neg c8] at hR
  rcases Classical.em (a1 = 12) with c9 | c9
  · have hP := hP.1 c9
    rw [if_pos c9] at hR
    refine j_tableIn (tgt := 320) (off := 319) C dX12_why_1 (by rw [c9]; decide) (by rw [c9]; decide) (by rw [c9]; decide) (by decide) ?_
    refine j_aload_n C dX12_why_320 rfl rfl ?_
    refine j_iload_n C dX12_why_321 rfl rfl ?_
    obtain ⟨p2, hP⟩ := hP
    refine j_callV C (MX12_isLock a2 h p2) dX12_why_322 (CKX12_isLock (by decide)) ⟨rfl, rfl⟩ lk_RX12_211 in_X12_isLock se_X12_isLock (by decide) rfl rfl rfl (Nat.le_of_ble_eq_true rfl) ?_
    intro r S' h' hq
    obtain ⟨rfl, hh, rfl, hb4⟩ := hq
    rw [hh]
    refine j_if_ne (tgt := 332) C dX12_why_325 (by decide) (fun c10 => ?_) (fun c10 => ?_)
    · have hP := hP.2 c10
      rw [if_neg c10] at hR
      refine j_aload_n C dX12_why_332 rfl rfl ?_
      refine gM_59 C dX12_why_333 ?_
      refine j_aload_n C dX12_why_336 rfl rfl ?_
      refine gM_40 C dX12_why_337 ?_
      refine j_iload_n C dX12_why_340 rfl rfl ?_
      obtain ⟨p5, hP⟩ := hP
      refine j_iald (k := 11) (v := (h 11 (a2.toNatClampNeg))) C dX12_why_341 (by decide) rfl p5 rfl ?_
      obtain ⟨p7, hP⟩ := hP
      refine j_iald (k := 17) (v := (h 17 ((h 11 (a2.toNatClampNeg)).toNatClampNeg))) C dX12_why_342 (by decide) rfl p7 rfl ?_
      refine j_iload_n C dX12_why_343 rfl rfl ?_
      refine j_icmp_ne (tgt := 351) C dX12_why_344 (by decide) (fun c11 => ?_) (fun c11 => ?_)
      · have hP := hP.2 c11
        rw [if_neg c11] at hR
        refine j_iconst (v := 0) C dX12_why_351 (by decide) ?_
        exact hR _ _ dX12_why_352
      · have hP := hP.1 c11
        rw [if_pos c11] at hR
        refine j_iconst (v := 5) C dX12_why_347 (by decide) ?_
        refine j_goto (tgt := 352) C dX12_why_348 (by decide) ?_
        exact hR _ _ dX12_why_352
    · have hP := hP.1 c10
      rw [if_pos c10] at hR
      refine j_iconst (v := 1) C dX12_why_328 (by decide) ?_
      refine j_goto (tgt := 352) C dX12_why_329 (by decide) ?_
      exact hR _ _ dX12_why_352
  have hP := hP.2 c9
  rw [if_neg c9] at hR
  rcases Classical.em (a1 = 13) with c10 | c10
  · have hP := hP.1 c10
    rw [if_pos c10] at hR
    refine j_tableIn (tgt := 353) (off := 352) C dX12_why_1 (by rw [c10]; decide) (by rw [c10]; decide) (by rw [c10]; decide) (by decide) ?_
    refine j_aload_n C dX12_why_353 rfl rfl ?_
    refine j_iload_n C dX12_why_354 rfl rfl ?_
    obtain ⟨p2, hP⟩ := hP
    refine j_callV C (MX12_isLock a2 h p2) dX12_why_355 (CKX12_isLock (by decide)) ⟨rfl, rfl⟩ lk_RX12_211 in_X12_isLock se_X12_isLock (by decide) rfl rfl rfl (Nat.le_of_ble_eq_true rfl) ?_
    intro r S' h' hq
    obtain ⟨rfl, hh, rfl, hb4⟩ := hq
    rw [hh]
    refine j_if_ne (tgt := 365) C dX12_why_358 (by decide) (fun c11 => ?_) (fun c11 => ?_)
    · have hP := hP.2 c11
      rw [if_neg c11] at hR
      refine j_aload_n C dX12_why_365 rfl rfl ?_
      refine gM_59 C dX12_why_366 ?_
      refine j_aload_n C dX12_why_369 rfl rfl ?_
      refine gM_40 C dX12_why_370 ?_
      refine j_iload_n C dX12_why_373 rfl rfl ?_
      obtain ⟨p5, hP⟩ := hP
      refine j_iald (k := 11) (v := (h 11 (a2.toNatClampNeg))) C dX12_why_374 (by decide) rfl p5 rfl ?_
      obtain ⟨p7, hP⟩ := hP
      refine j_iald (k := 17) (v := (h 17 ((h 11 (a2.toNatClampNeg)).toNatClampNeg))) C dX12_why_375 (by decide) rfl p7 rfl ?_
      refine j_iload_n C dX12_why_376 rfl rfl ?_
      refine j_icmp_eq (tgt := 385) C dX12_why_377 (by decide) (fun c12 => ?_) (fun c12 => ?_)
      · have hP := hP.1 c12
        rw [if_pos c12] at hR
        refine j_iconst (v := 0) C dX12_why_385 (by decide) ?_
        exact hR _ _ dX12_why_386
      · have hP := hP.2 c12
        rw [if_neg c12] at hR
        refine j_bipush (v := 6) C dX12_why_380 (by decide) ?_
        refine j_goto (tgt := 386) C dX12_why_382 (by decide) ?_
        exact hR _ _ dX12_why_386
    · have hP := hP.1 c11
      rw [if_pos c11] at hR
      refine j_iconst (v := 1) C dX12_why_361 (by decide) ?_
      refine j_goto (tgt := 386) C dX12_why_362 (by decide) ?_
      exact hR _ _ dX12_why_386
  have hP := hP.2 c10
  rw [if_neg c10] at hR
  rcases Classical.em (a1 = 14) with c11 | c11
  · have hP := hP.1 c11
    rw [if_pos c11] at hR
    refine j_tableIn (tgt := 387) (off := 386) C dX12_why_1 (by rw [c11]; decide) (by rw [c11]; decide) (by rw [c11]; decide) (by decide) ?_
    refine j_aload_n C dX12_why_387 rfl rfl ?_
    refine gM_37 C dX12_why_388 ?_
    refine j_iload_n C dX12_why_391 rfl rfl ?_
    obtain ⟨p3, hP⟩ := hP
    refine j_iald (k := 10) (v := (h 10 (a2.toNatClampNeg))) C dX12_why_392 (by decide) rfl p3 rfl ?_
    refine j_iconst (v := 3) C dX12_why_393 (by decide) ?_
    refine j_icmp_eq (tgt := 401) C dX12_why_394 (by decide) (fun c12 => ?_) (fun c12 => ?_)
    · have hP := hP.1 c12
      rw [if_pos c12] at hR
      refine j_aload_n C dX12_why_401 rfl rfl ?_
      refine gM_59 C dX12_why_402 ?_
      refine j_aload_n C dX12_why_405 rfl rfl ?_
      refine gM_40 C dX12_why_406 ?_
      refine j_iload_n C dX12_why_409 rfl rfl ?_
      obtain ⟨p5, hP⟩ := hP
      refine j_iald (k := 11) (v := (h 11 (a2.toNatClampNeg))) C dX12_why_410 (by decide) rfl p5 rfl ?_
      obtain ⟨p7, hP⟩ := hP
      refine j_iald (k := 17) (v := (h 17 ((h 11 (a2.toNatClampNeg)).toNatClampNeg))) C dX12_why_411 (by decide) rfl p7 rfl ?_
      refine j_iload_n C dX12_why_412 rfl rfl ?_
      refine j_icmp_eq (tgt := 421) C dX12_why_413 (by decide) (fun c13 => ?_) (fun c13 => ?_)
      · have hP := hP.1 c13
        rw [if_pos c13] at hR
        refine j_iconst (v := 0) C dX12_why_421 (by decide) ?_
        exact hR _ _ dX12_why_422
      · have hP := hP.2 c13
        rw [if_neg c13] at hR
        refine j_bipush (v := 6) C dX12_why_416 (by decide) ?_
        refine j_goto (tgt := 422) C dX12_why_418 (by decide) ?_
        exact hR _ _ dX12_why_422
    · have hP := hP.2 c12
      rw [if_neg c12] at hR
      refine j_iconst (v := 1) C dX12_why_397 (by decide) ?_
      refine j_goto (tgt := 422) C dX12_why_398 (by decide) ?_
      exact hR _ _ dX12_why_422
  have hP := hP.2 c11
  rw [if_neg c11] at hR
  rcases Classical.em (a1 = 15) with c12 | c12
  · have hP := hP.1 c12
    rw [if_pos c12] at hR
    refine j_tableIn (tgt := 387) (off := 386) C dX12_why_1 (by rw [c12]; decide) (by rw [c12]; decide) (by rw [c12]; decide) (by decide) ?_
    refine j_aload_n C dX12_why_387 rfl rfl ?_
    refine gM_37 C dX12_why_388 ?_
    refine j_iload_n C dX12_why_391 rfl rfl ?_
    obtain ⟨p3, hP⟩ := hP
    refine j_iald (k := 10) (v := (h 10 (a2.toNatClampNeg))) C dX12_why_392 (by decide) rfl p3 rfl ?_
    refine j_iconst (v := 3) C dX12_why_393 (by decide) ?_
    refine j_icmp_eq (tgt := 401) C dX12_why_394 (by decide) (fun c13 => ?_) (fun c13 => ?_)
    · have hP := hP.1 c13
      rw [if_pos c13] at hR
      refine j_aload_n C dX12_why_401 rfl rfl ?_
      refine gM_59 C dX12_why_402 ?_
      refine j_aload_n C dX12_why_405 rfl rfl ?_
      refine gM_40 C dX12_why_406 ?_
      refine j_iload_n C dX12_why_409 rfl rfl ?_
      obtain ⟨p5, hP⟩ := hP
      refine j_iald (k := 11) (v := (h 11 (a2.toNatClampNeg))) C dX12_why_410 (by decide) rfl p5 rfl ?_
      obtain ⟨p7, hP⟩ := hP
      refine j_iald (k := 17) (v := (h 17 ((h 11 (a2.toNatClampNeg)).toNatClampNeg))) C dX12_why_411 (by decide) rfl p7 rfl ?_
      refine j_iload_n C dX12_why_412 rfl rfl ?_
      refine j_icmp_eq (tgt := 421) C dX12_why_413 (by decide) (fun c14 => ?_) (fun c14 => ?_)
      · have hP := hP.1 c14
        rw [if_pos c14] at hR
        refine j_iconst (v := 0) C dX12_why_421 (by decide) ?_
        exact hR _ _ dX12_why_422
      · have hP := hP.2 c14
        rw [if_neg c14] at hR
        refine j_bipush (v := 6) C dX12_why_416 (by decide) ?_
        refine j_goto (tgt := 422) C dX12_why_418 (by decide) ?_
        exact hR _ _ dX12_why_422
    · have hP := hP.2 c13
      rw [if_neg c13] at hR
      refine j_iconst (v := 1) C dX12_why_397 (by decide) ?_
      refine j_goto (tgt := 422) C dX12_why_398 (by decide) ?_
      exact hR _ _ dX12_why_422
  have hP := hP.2 c12
  rw [if_neg c12] at hR
  rcases Classical.em (a1 = 16) with c13 | c13
  · have hP := hP.1 c13
    rw [if_pos c13] at hR
    refine j_tableIn (tgt := 423) (off := 422) C dX12_why_1 (by rw [c13]; decide) (by rw [c13]; decide) (by rw [c13]; decide) (by decide) ?_
    refine j_aload_n C dX12_why_423 rfl rfl ?_
    refine gM_218 (v := (h 0 33)) C dX12_why_424 rfl ?_
    refine j_if_ne (tgt := 446) C dX12_why_427 (by decide) (fun c14 => ?_) (fun c14 => ?_)
    · have hP := hP.2 c14
      rw [if_neg c14] at hR
      refine j_iconst (v := 0) C dX12_why_446 (by decide) ?_
      exact hR _ _ dX12_why_447
    · have hP := hP.1 c14
      rw [if_pos c14] at hR
      refine j_aload_n C dX12_why_430 rfl rfl ?_
      refine gM_188 (v := (h 0 23)) C dX12_why_431 rfl ?_
      refine j_aload_n C dX12_why_434 rfl rfl ?_
      refine gM_177 (v := (h 0 7)) C dX12_why_435 rfl ?_
      refine j_icmp_ne (tgt := 446) C dX12_why_438 (by decide) (fun c15 => ?_) (fun c15 => ?_)
      · have hP := hP.2 c15
        rw [if_neg c15] at hR
        refine j_iconst (v := 0) C dX12_why_446 (by decide) ?_
        exact hR _ _ dX12_why_447
      · have hP := hP.1 c15
        rw [if_pos c15] at hR
        refine j_bipush (v := 7) C dX12_why_441 (by decide) ?_
        refine j_goto (tgt := 447) C dX12_why_443 (by decide) ?_
        exact hR _ _ dX12_why_447
  have hP := hP.2 c13
  rw [if_neg c13] at hR
  rcases Classical.em (a1 = 17) with c14 | c14
  · have hP := hP.1 c14
    rw [if_pos c14] at hR
    refine j_tableIn (tgt := 448) (off := 447) C dX12_why_1 (by rw [c14]; decide) (by rw [c14]; decide) (by rw [c14]; decide) (by decide) ?_
    refine j_iconst (v := 0) C dX12_why_448 (by decide) ?_
    exact hR _ _ dX12_why_449
  have hP := hP.2 c14
  rw [if_neg c14] at hR
  rcases Classical.em (a1 = 18) with c15 | c15
  · have hP := hP.1 c15
    rw [if_pos c15] at hR
    refine j_tableIn (tgt := 450) (off := 449) C dX12_why_1 (by rw [c15]; decide) (by rw [c15]; decide) (by rw [c15]; decide) (by decide) ?_
    refine j_bipush (v := 10) C dX12_why_450 (by decide) ?_
    refine j_iload C dX12_why_452 rfl ?_
    refine j_bipush (v := 10) C dX12_why_454 (by decide) ?_
    obtain ⟨p3, hP⟩ := hP
    refine j_callS C (MX12_modulo a5 10 h p3) dX12_why_456 (CKX12_modulo (by decide)) ⟨rfl, rfl⟩ lk_RX12_204 st_X12_modulo rfl (Nat.le_of_ble_eq_true rfl) ?_
    intro r S' h' hq
    obtain ⟨rfl, hh, rfl⟩ := hq
    rw [hh]
    refine j_iadd C dX12_why_459 ?_
    exact hR _ _ dX12_why_460
  have hP := hP.2 c15
  rw [if_neg c15] at hR
  refine j_tableOut (tgt := 461) C dX12_why_1 (sw_out (fun v h1 h2 e => by rcases (show v = 3 ∨ v = 4 ∨ v = 5 ∨ v = 6 ∨ v = 7 ∨ v = 8 ∨ v = 9 ∨ v = 10 ∨ v = 11 ∨ v = 12 ∨ v = 13 ∨ v = 14 ∨ v = 15 ∨ v = 16 ∨ v = 17 ∨ v = 18 by omega) with z | z | z | z | z | z | z | z | z | z | z | z | z | z | z | z <;> rw [z] at e <;> first | exact c0 (e.trans (by decide)) | exact c1 (e.trans (by decide)) | exact c2 (e.trans (by decide)) | exact c3 (e.trans (by decide)) | exact c4 (e.trans (by decide)) | exact c5 (e.trans (by decide)) | exact c6 (e.trans (by decide)) | exact c7 (e.trans (by decide)) | exact c8 (e.trans (by decide)) | exact c9 (e.trans (by decide)) | exact c10 (e.trans (by decide)) | exact c11 (e.trans (by decide)) | exact c12 (e.trans (by decide)) | exact c13 (e.trans (by decide)) | exact c14 (e.trans (by decide)) | exact c15 (e.trans (by decide)))) (by decide) ?_
  refine j_iconst (v := 0) C dX12_why_461 (by decide) ?_
  exact hR _ _ dX12_why_462
theorem MX12_why {l0 : Launch} {Y : fj_Y} {ad : Nat → Nat} (a0 : Int32) (a1 : Int32) (a2 : Int32) (a3 : Int32) (a4 : Int32) (a5 : Int32) (h : ph_H) (hP : PX12_why a0 a1 a2 a3 a4 a5 h) : MI l0 yX12_why cX12_why 7 (some .int) ({ frames := 1, cells := 0, slots := 0, locals := 25 } : Room) Y ad 50 SM h [.ref (ad 0), .int a0, .int a1, .int a2, .int a3, .int a4, .int a5] (fun r S' h' => S' = SM ∧ h' = h ∧ r = FX12_why a0 a1 a2 a3 a4 a5 h) := met_i (by decide) (Nat.le_of_ble_eq_true rfl) (fun _ _ _ _ => rfl) (fun X C K => j_vl (tX12_why C a0 a1 a2 a3 a4 a5 h hP (fun pc lv hd => K _ _ _ ⟨rfl, rfl, rfl⟩ pc lv hd)) ⟨rfl, rfl, rfl, rfl, rfl, rfl, rfl, trivial⟩)

-- X12_work
def FX12_work_88  (h : ph_H) : ph_H := h
def PX12_work_88  (h : ph_H) : Prop := True
set_option maxRecDepth 100000 in
set_option maxHeartbeats 4000000 in
theorem tX12_work_88 {X : fj_X} {Y : fj_Y} {l0 : Launch} {ad : Nat → Nat} (C : FC X Y l0 cX12_work 7 RX12 ({ frames := 1, cells := 0, slots := 0, locals := 24 } : Room) 0 0 none) (h : ph_H) (hP : PX12_work_88  h) (hR : RETv X Y ad 50 SM cX12_work (FX12_work_88  h)) : FJ X Y ad 50 SM h 88 [] [] := by
  unfold PX12_work_88 at hP
  unfold FX12_work_88 at hR
  refine j_goto (tgt := 444) C dX12_work_88 (by decide) ?_
  exact hR _ _ dX12_work_444
def FX12_work_111  (h : ph_H) : ph_H := h
def PX12_work_111  (h : ph_H) : Prop := True
set_option maxRecDepth 100000 in
set_option maxHeartbeats 4000000 in
theorem tX12_work_111 {X : fj_X} {Y : fj_Y} {l0 : Launch} {ad : Nat → Nat} (C : FC X Y l0 cX12_work 7 RX12 ({ frames := 1, cells := 0, slots := 0, locals := 24 } : Room) 0 0 none) (h : ph_H) (hP : PX12_work_111  h) (hR : RETv X Y ad 50 SM cX12_work (FX12_work_111  h)) : FJ X Y ad 50 SM h 111 [] [] := by
  unfold PX12_work_111 at hP
  unfold FX12_work_111 at hR
  refine j_goto (tgt := 444) C dX12_work_111 (by decide) ?_
  exact hR _ _ dX12_work_444
def FX12_work_134  (h : ph_H) : ph_H := h
def PX12_work_134  (h : ph_H) : Prop := True
set_option maxRecDepth 100000 in
set_option maxHeartbeats 4000000 in
theorem tX12_work_134 {X : fj_X} {Y : fj_Y} {l0 : Launch} {ad : Nat → Nat} (C : FC X Y l0 cX12_work 7 RX12 ({ frames := 1, cells := 0, slots := 0, locals := 24 } : Room) 0 0 none) (h : ph_H) (hP : PX12_work_134  h) (hR : RETv X Y ad 50 SM cX12_work (FX12_work_134  h)) : FJ X Y ad 50 SM h 134 [] [] := by
  unfold PX12_work_134 at hP
  unfold FX12_work_134 at hR
  refine j_goto (tgt := 444) C dX12_work_134 (by decide) ?_
  exact hR _ _ dX12_work_444
def FX12_work_155  (h : ph_H) : ph_H := h
def PX12_work_155  (h : ph_H) : Prop := True
set_option maxRecDepth 100000 in
set_option maxHeartbeats 4000000 in
theorem tX12_work_155 {X : fj_X} {Y : fj_Y} {l0 : Launch} {ad : Nat → Nat} (C : FC X Y l0 cX12_work 7 RX12 ({ frames := 1, cells := 0, slots := 0, locals := 24 } : Room) 0 0 none) (h : ph_H) (hP : PX12_work_155  h) (hR : RETv X Y ad 50 SM cX12_work (FX12_work_155  h)) : FJ X Y ad 50 SM h 155 [] [] := by
  unfold PX12_work_155 at hP
  unfold FX12_work_155 at hR
  refine j_goto (tgt := 444) C dX12_work_155 (by decide) ?_
  exact hR _ _ dX12_work_444
def FX12_work_152  (s0 : Int32) (s1 : Int32) (s2 : Int32) (h : ph_H) : ph_H := FX12_work_155  (FX12_set s2 s1 s0 h)
def PX12_work_152  (s0 : Int32) (s1 : Int32) (s2 : Int32) (h : ph_H) : Prop := (PX12_set s2 s1 s0 h) ∧ (PX12_work_155  (FX12_set s2 s1 s0 h))
set_option maxRecDepth 100000 in
set_option maxHeartbeats 4000000 in
theorem tX12_work_152 {X : fj_X} {Y : fj_Y} {l0 : Launch} {ad : Nat → Nat} (C : FC X Y l0 cX12_work 7 RX12 ({ frames := 1, cells := 0, slots := 0, locals := 24 } : Room) 0 0 none) (s0 : Int32) (s1 : Int32) (s2 : Int32) (h : ph_H) (hP : PX12_work_152  s0 s1 s2 h) (hR : RETv X Y ad 50 SM cX12_work (FX12_work_152  s0 s1 s2 h)) : FJ X Y ad 50 SM h 152 [] [.int s0, .int s1, .int s2, .ref (ad 0)] := by
  unfold PX12_work_152 at hP
  unfold FX12_work_152 at hR
  obtain ⟨p0, hP⟩ := hP
  refine j_callVv C (MX12_set s2 s1 s0 h p0) dX12_work_152 (CKX12_set (by decide)) ⟨rfl, rfl⟩ lk_RX12_221 in_X12_set se_X12_set (by decide) rfl rfl rfl (Nat.le_of_ble_eq_true rfl) ?_
  intro S' h' hq
  obtain ⟨rfl, rfl⟩ := hq
  exact j_vl (tX12_work_155 C  (FX12_set s2 s1 s0 h) hP hR) trivial
def FX12_work_212  (h : ph_H) : ph_H := h
def PX12_work_212  (h : ph_H) : Prop := True
set_option maxRecDepth 100000 in
set_option maxHeartbeats 4000000 in
theorem tX12_work_212 {X : fj_X} {Y : fj_Y} {l0 : Launch} {ad : Nat → Nat} (C : FC X Y l0 cX12_work 7 RX12 ({ frames := 1, cells := 0, slots := 0, locals := 24 } : Room) 0 0 none) (h : ph_H) (hP : PX12_work_212  h) (hR : RETv X Y ad 50 SM cX12_work (FX12_work_212  h)) : FJ X Y ad 50 SM h 212 [] [] := by
  unfold PX12_work_212 at hP
  unfold FX12_work_212 at hR
  refine j_goto (tgt := 444) C dX12_work_212 (by decide) ?_
  exact hR _ _ dX12_work_444
def FX12_work_435 (L391 : Int32 → Int32 → ph_H → ph_H) (x3 : Int32) (x6 : Int32) (h : ph_H) : ph_H := L391 x3 (x6 + 1) h
def PX12_work_435 (LP391 : Int32 → Int32 → ph_H → Prop) (x3 : Int32) (x6 : Int32) (h : ph_H) : Prop := LP391 x3 (x6 + 1) h
set_option maxRecDepth 100000 in
set_option maxHeartbeats 4000000 in
theorem tX12_work_435 {X : fj_X} {Y : fj_Y} {l0 : Launch} {ad : Nat → Nat} (C : FC X Y l0 cX12_work 7 RX12 ({ frames := 1, cells := 0, slots := 0, locals := 24 } : Room) 0 0 none) (L391 : Int32 → Int32 → ph_H → ph_H) (LP391 : Int32 → Int32 → ph_H → Prop) (hL391 : ∀ (x3 : Int32) (x6 : Int32) (h : ph_H), LP391 x3 x6 h → RETv X Y ad 50 SM cX12_work (L391 x3 x6 h) → FJ X Y ad 50 SM h 391 [(0, .ref (ad 0)), (3, .int x3), (6, .int x6)] []) (x3 : Int32) (x6 : Int32) (h : ph_H) (hP : PX12_work_435 LP391 x3 x6 h) (hR : RETv X Y ad 50 SM cX12_work (FX12_work_435 L391 x3 x6 h)) : FJ X Y ad 50 SM h 435 [(0, .ref (ad 0)), (3, .int x3), (6, .int x6)] [] := by
  unfold PX12_work_435 at hP
  unfold FX12_work_435 at hR
  refine j_iinc (v := (x6 + 1)) C dX12_work_435 rfl rfl (by decide) rfl ?_
  refine j_goto (tgt := 391) C dX12_work_438 (by decide) ?_
  exact j_vl (hL391 x3 (x6 + 1) h hP hR) ⟨rfl, rfl, rfl, trivial⟩
def FX12_work_391  : Nat → Int32 → Int32 → ph_H → ph_H
  | 0, _, _, h => h
  | q + 1, x3, x6, h => if 4 ≤ x6 then (h) else (if (h 14 (x6.toNatClampNeg)) = (h 11 (x3.toNatClampNeg)) then (FX12_work_435 (FX12_work_391  q) x3 x6 (hs (hs h 15 x6.toNatClampNeg (h 14 (x6.toNatClampNeg))) 14 x6.toNatClampNeg (-1))) else (FX12_work_435 (FX12_work_391  q) x3 x6 h))
def PX12_work_391  : Nat → Int32 → Int32 → ph_H → Prop
  | 0, _, _, _ => False
  | q + 1, x3, x6, h => (4 ≤ x6 → (True)) ∧ (¬ 4 ≤ x6 → (vp_in x6 4 ∧ (vp_in x3 28 ∧ (((h 14 (x6.toNatClampNeg)) = (h 11 (x3.toNatClampNeg)) → (vp_in x6 4 ∧ (vp_in x6 4 ∧ (vp_in x6 4 ∧ (PX12_work_435 (PX12_work_391  q) x3 x6 (hs (hs h 15 x6.toNatClampNeg (h 14 (x6.toNatClampNeg))) 14 x6.toNatClampNeg (-1))))))) ∧ (¬ (h 14 (x6.toNatClampNeg)) = (h 11 (x3.toNatClampNeg)) → (PX12_work_435 (PX12_work_391  q) x3 x6 h))))))
set_option maxRecDepth 100000 in
set_option maxHeartbeats 4000000 in
theorem tX12_work_391 {X : fj_X} {Y : fj_Y} {l0 : Launch} {ad : Nat → Nat} (C : FC X Y l0 cX12_work 7 RX12 ({ frames := 1, cells := 0, slots := 0, locals := 24 } : Room) 0 0 none) : ∀ (q : Nat) (x3 : Int32) (x6 : Int32) (h : ph_H), PX12_work_391  q x3 x6 h → RETv X Y ad 50 SM cX12_work (FX12_work_391  q x3 x6 h) → FJ X Y ad 50 SM h 391 [(0, .ref (ad 0)), (3, .int x3), (6, .int x6)] [] := by
  intro q
  induction q with
  | zero =>
    intro x3 x6 h hP hR
    exact absurd hP id
  | succ q ih =>
    intro x3 x6 h hP hR
    unfold PX12_work_391 at hP
    unfold FX12_work_391 at hR
    refine j_iload C dX12_work_391 rfl ?_
    refine j_iconst (v := 4) C dX12_work_393 (by decide) ?_
    refine j_icmp_ge (tgt := 441) C dX12_work_394 (by decide) (fun c0 => ?_) (fun c0 => ?_)
    · have hP := hP.1 c0
      rw [if_pos c0] at hR
      refine j_goto (tgt := 444) C dX12_work_441 (by decide) ?_
      exact hR _ _ dX12_work_444
    · have hP := hP.2 c0
      rw [if_neg c0] at hR
      refine j_aload_n C dX12_work_397 rfl rfl ?_
      refine gM_50 C dX12_work_398 ?_
      refine j_iload C dX12_work_401 rfl ?_
      obtain ⟨p3, hP⟩ := hP
      refine j_iald (k := 14) (v := (h 14 (x6.toNatClampNeg))) C dX12_work_403 (by decide) rfl p3 rfl ?_
      refine j_aload_n C dX12_work_404 rfl rfl ?_
      refine gM_40 C dX12_work_405 ?_
      refine j_iload_n C dX12_work_408 rfl rfl ?_
      obtain ⟨p8, hP⟩ := hP
      refine j_iald (k := 11) (v := (h 11 (x3.toNatClampNeg))) C dX12_work_409 (by decide) rfl p8 rfl ?_
      refine j_icmp_ne (tgt := 435) C dX12_work_410 (by decide) (fun c1 => ?_) (fun c1 => ?_)
      · have hP := hP.2 c1
        rw [if_neg c1] at hR
        exact j_vl (tX12_work_435 C (FX12_work_391  q) (PX12_work_391  q) (ih) x3 x6 h hP hR) ⟨rfl, rfl, rfl, trivial⟩
      · have hP := hP.1 c1
        rw [if_pos c1] at hR
        refine j_aload_n C dX12_work_413 rfl rfl ?_
        refine gM_53 C dX12_work_414 ?_
        refine j_iload C dX12_work_417 rfl ?_
        refine j_aload_n C dX12_work_419 rfl rfl ?_
        refine gM_50 C dX12_work_420 ?_
        refine j_iload C dX12_work_423 rfl ?_
        obtain ⟨p6, hP⟩ := hP
        refine j_iald (k := 14) (v := (h 14 (x6.toNatClampNeg))) C dX12_work_425 (by decide) rfl p6 rfl ?_
        obtain ⟨p8, hP⟩ := hP
        refine j_iast (k := 15) C dX12_work_426 (by decide) rfl p8 ?_
        refine j_aload_n C dX12_work_427 rfl rfl ?_
        refine gM_50 C dX12_work_428 ?_
        refine j_iload C dX12_work_431 rfl ?_
        refine j_iconst (v := (-1)) C dX12_work_433 (by decide) ?_
        obtain ⟨p14, hP⟩ := hP
        refine j_iast (k := 14) C dX12_work_434 (by decide) rfl p14 ?_
        exact j_vl (tX12_work_435 C (FX12_work_391  q) (PX12_work_391  q) (ih) x3 x6 (hs (hs h 15 x6.toNatClampNeg (h 14 (x6.toNatClampNeg))) 14 x6.toNatClampNeg (-1)) hP hR) ⟨rfl, rfl, rfl, trivial⟩
def FX12_work (a0 : Int32) (a1 : Int32) (a2 : Int32) (a3 : Int32) (a4 : Int32) (h : ph_H) : ph_H := if a1 = 3 then (FX12_work_88  (FX12_set a2 0 ((h 11 (a2.toNatClampNeg)) + (h 11 (a3.toNatClampNeg))) h)) else (if a1 = 4 then (FX12_work_111  (FX12_set a2 0 ((h 11 (a2.toNatClampNeg)) - (h 11 (a3.toNatClampNeg))) h)) else (if a1 = 5 then (FX12_work_134  (FX12_set a2 0 ((h 11 (a2.toNatClampNeg)) * (h 11 (a3.toNatClampNeg))) h)) else (if a1 = 6 then (h) else (if a1 = 7 then (h) else (if a1 = 8 then (FX12_work_152  ((FX12_newThing 1 (h 11 (a3.toNatClampNeg)) h).1) 1 a2 ((FX12_newThing 1 (h 11 (a3.toNatClampNeg)) h).2)) else (if a1 = 9 then (FX12_work_212  (FX12_set a2 0 (h 19 (((16 * (h 11 (a3.toNatClampNeg))) + (h 11 (a4.toNatClampNeg))).toNatClampNeg)) (hs h 0 29 ((100 + (20 * (h 11 (a3.toNatClampNeg)))) + (h 11 (a4.toNatClampNeg)))))) else (if a1 = 10 then ((hs (hs h 0 30 ((100 + (20 * (h 11 (a2.toNatClampNeg)))) + (h 11 (a3.toNatClampNeg)))) 19 ((16 * (h 11 (a2.toNatClampNeg))) + (h 11 (a3.toNatClampNeg))).toNatClampNeg (h 11 (a4.toNatClampNeg)))) else (if a1 = 11 then (h) else (if a1 = 12 then ((hs (hs (hs h 17 (h 11 (a2.toNatClampNeg)).toNatClampNeg a0) 0 31 1) 0 32 (h 11 (a2.toNatClampNeg)))) else (if a1 = 13 then ((hs (hs (hs h 17 (h 11 (a2.toNatClampNeg)).toNatClampNeg (-1)) 0 31 2) 0 32 (h 11 (a2.toNatClampNeg)))) else (if a1 = 14 then ((hs (hs (hs (hs h 17 (h 11 (a2.toNatClampNeg)).toNatClampNeg (-1)) 14 a0.toNatClampNeg (h 11 (a2.toNatClampNeg))) 0 31 2) 0 32 (h 11 (a2.toNatClampNeg)))) else (if a1 = 15 then (FX12_work_391 2000 a2 0 (hs (hs h 0 31 3) 0 32 (h 11 (a2.toNatClampNeg)))) else (h)))))))))))))
def PX12_work (a0 : Int32) (a1 : Int32) (a2 : Int32) (a3 : Int32) (a4 : Int32) (h : ph_H) : Prop := (a1 = 3 → (vp_in a2 28 ∧ (vp_in a3 28 ∧ ((PX12_set a2 0 ((h 11 (a2.toNatClampNeg)) + (h 11 (a3.toNatClampNeg))) h) ∧ (PX12_work_88  (FX12_set a2 0 ((h 11 (a2.toNatClampNeg)) + (h 11 (a3.toNatClampNeg))) h)))))) ∧ (¬ a1 = 3 → ((a1 = 4 → (vp_in a2 28 ∧ (vp_in a3 28 ∧ ((PX12_set a2 0 ((h 11 (a2.toNatClampNeg)) - (h 11 (a3.toNatClampNeg))) h) ∧ (PX12_work_111  (FX12_set a2 0 ((h 11 (a2.toNatClampNeg)) - (h 11 (a3.toNatClampNeg))) h)))))) ∧ (¬ a1 = 4 → ((a1 = 5 → (vp_in a2 28 ∧ (vp_in a3 28 ∧ ((PX12_set a2 0 ((h 11 (a2.toNatClampNeg)) * (h 11 (a3.toNatClampNeg))) h) ∧ (PX12_work_134  (FX12_set a2 0 ((h 11 (a2.toNatClampNeg)) * (h 11 (a3.toNatClampNeg))) h)))))) ∧ (¬ a1 = 5 → ((a1 = 6 → (True)) ∧ (¬ a1 = 6 → ((a1 = 7 → (True)) ∧ (¬ a1 = 7 → ((a1 = 8 → (vp_in a3 28 ∧ ((PX12_newThing 1 (h 11 (a3.toNatClampNeg)) h) ∧ (PX12_work_152  ((FX12_newThing 1 (h 11 (a3.toNatClampNeg)) h).1) 1 a2 ((FX12_newThing 1 (h 11 (a3.toNatClampNeg)) h).2))))) ∧ (¬ a1 = 8 → ((a1 = 9 → (vp_in a3 28 ∧ (vp_in a4 28 ∧ (vp_in a3 28 ∧ (vp_in a4 28 ∧ (vp_in ((16 * (h 11 (a3.toNatClampNeg))) + (h 11 (a4.toNatClampNeg))) 192 ∧ ((PX12_set a2 0 (h 19 (((16 * (h 11 (a3.toNatClampNeg))) + (h 11 (a4.toNatClampNeg))).toNatClampNeg)) (hs h 0 29 ((100 + (20 * (h 11 (a3.toNatClampNeg)))) + (h 11 (a4.toNatClampNeg))))) ∧ (PX12_work_212  (FX12_set a2 0 (h 19 (((16 * (h 11 (a3.toNatClampNeg))) + (h 11 (a4.toNatClampNeg))).toNatClampNeg)) (hs h 0 29 ((100 + (20 * (h 11 (a3.toNatClampNeg)))) + (h 11 (a4.toNatClampNeg))))))))))))) ∧ (¬ a1 = 9 → ((a1 = 10 → (vp_in a2 28 ∧ (vp_in a3 28 ∧ (vp_in a2 28 ∧ (vp_in a3 28 ∧ (vp_in a4 28 ∧ (vp_in ((16 * (h 11 (a2.toNatClampNeg))) + (h 11 (a3.toNatClampNeg))) 192 ∧ (True)))))))) ∧ (¬ a1 = 10 → ((a1 = 11 → (True)) ∧ (¬ a1 = 11 → ((a1 = 12 → (vp_in a2 28 ∧ (vp_in (h 11 (a2.toNatClampNeg)) 12 ∧ (vp_in a2 28 ∧ (True))))) ∧ (¬ a1 = 12 → ((a1 = 13 → (vp_in a2 28 ∧ (vp_in (h 11 (a2.toNatClampNeg)) 12 ∧ (vp_in a2 28 ∧ (True))))) ∧ (¬ a1 = 13 → ((a1 = 14 → (vp_in a2 28 ∧ (vp_in (h 11 (a2.toNatClampNeg)) 12 ∧ (vp_in a2 28 ∧ (vp_in a0 4 ∧ (vp_in a2 28 ∧ (True))))))) ∧ (¬ a1 = 14 → ((a1 = 15 → (vp_in a2 28 ∧ (PX12_work_391 2000 a2 0 (hs (hs h 0 31 3) 0 32 (h 11 (a2.toNatClampNeg)))))) ∧ (¬ a1 = 15 → (True))))))))))))))))))))))))))
set_option maxRecDepth 100000 in
set_option maxHeartbeats 4000000 in
theorem tX12_work {X : fj_X} {Y : fj_Y} {l0 : Launch} {ad : Nat → Nat} (C : FC X Y l0 cX12_work 7 RX12 ({ frames := 1, cells := 0, slots := 0, locals := 24 } : Room) 0 0 none) (a0 : Int32) (a1 : Int32) (a2 : Int32) (a3 : Int32) (a4 : Int32) (h : ph_H) (hP : PX12_work a0 a1 a2 a3 a4 h) (hR : RETv X Y ad 50 SM cX12_work (FX12_work a0 a1 a2 a3 a4 h)) : FJ X Y ad 50 SM h 0 [(0, .ref (ad 0)), (1, .int a0), (2, .int a1), (3, .int a2), (4, .int a3), (5, .int a4)] [] := by
  unfold PX12_work at hP
  unfold FX12_work at hR
  refine j_iload_n C dX12_work_0 rfl rfl ?_
  rcases Classical.em (a1 = 3) with c0 | c0
  · have hP := hP.1 c0
    rw [if_pos c0] at hR
    refine j_tableIn (tgt := 68) (off := 67) C dX12_work_1 (by rw [c0]; decide) (by rw [c0]; decide) (by rw [c0]; decide) (by decide) ?_
    refine j_aload_n C dX12_work_68 rfl rfl ?_
    refine j_iload_n C dX12_work_69 rfl rfl ?_
    refine j_iconst (v := 0) C dX12_work_70 (by decide) ?_
    refine j_aload_n C dX12_work_71 rfl rfl ?_
    refine gM_40 C dX12_work_72 ?_
    refine j_iload_n C dX12_work_75 rfl rfl ?_
    obtain ⟨p6, hP⟩ := hP
    refine j_iald (k := 11) (v := (h 11 (a2.toNatClampNeg))) C dX12_work_76 (by decide) rfl p6 rfl ?_
    refine j_aload_n C dX12_work_77 rfl rfl ?_
    refine gM_40 C dX12_work_78 ?_
    refine j_iload C dX12_work_81 rfl ?_
    obtain ⟨p11, hP⟩ := hP
    refine j_iald (k := 11) (v := (h 11 (a3.toNatClampNeg))) C dX12_work_83 (by decide) rfl p11 rfl ?_
    refine j_iadd C dX12_work_84 ?_
    obtain ⟨p14, hP⟩ := hP
    refine j_callVv C (MX12_set a2 0 ((h 11 (a2.toNatClampNeg)) + (h 11 (a3.toNatClampNeg))) h p14) dX12_work_85 (CKX12_set (by decide)) ⟨rfl, rfl⟩ lk_RX12_221 in_X12_set se_X12_set (by decide) rfl rfl rfl (Nat.le_of_ble_eq_true rfl) ?_
    intro S' h' hq
    obtain ⟨rfl, rfl⟩ := hq
    exact j_vl (tX12_work_88 C  (FX12_set a2 0 ((h 11 (a2.toNatClampNeg)) + (h 11 (a3.toNatClampNeg))) h) hP hR) trivial
  have hP := hP.2 c0
  rw [if_neg c0] at hR
  rcases Classical.em (a1 = 4) with c1 | c1
  · have hP := hP.1 c1
    rw [if_pos c1] at hR
    refine j_tableIn (tgt := 91) (off := 90) C dX12_work_1 (by rw [c1]; decide) (by rw [c1]; decide) (by rw [c1]; decide) (by decide) ?_
    refine j_aload_n C dX12_work_91 rfl rfl ?_
    refine j_iload_n C dX12_work_92 rfl rfl ?_
    refine j_iconst (v := 0) C dX12_work_93 (by decide) ?_
    refine j_aload_n C dX12_work_94 rfl rfl ?_
    refine gM_40 C dX12_work_95 ?_
    refine j_iload_n C dX12_work_98 rfl rfl ?_
    obtain ⟨p6, hP⟩ := hP
    refine j_iald (k := 11) (v := (h 11 (a2.toNatClampNeg))) C dX12_work_99 (by decide) rfl p6 rfl ?_
    refine j_aload_n C dX12_work_100 rfl rfl ?_
    refine gM_40 C dX12_work_101 ?_
    refine j_iload C dX12_work_104 rfl ?_
    obtain ⟨p11, hP⟩ := hP
    refine j_iald (k := 11) (v := (h 11 (a3.toNatClampNeg))) C dX12_work_106 (by decide) rfl p11 rfl ?_
    refine j_isub C dX12_work_107 ?_
    obtain ⟨p14, hP⟩ := hP
    refine j_callVv C (MX12_set a2 0 ((h 11 (a2.toNatClampNeg)) - (h 11 (a3.toNatClampNeg))) h p14) dX12_work_108 (CKX12_set (by decide)) ⟨rfl, rfl⟩ lk_RX12_221 in_X12_set se_X12_set (by decide) rfl rfl rfl (Nat.le_of_ble_eq_true rfl) ?_
    intro S' h' hq
    obtain ⟨rfl, rfl⟩ := hq
    exact j_vl (tX12_work_111 C  (FX12_set a2 0 ((h 11 (a2.toNatClampNeg)) - (h 11 (a3.toNatClampNeg))) h) hP hR) trivial
  have hP := hP.2 c1
  rw [if_neg c1] at hR
  rcases Classical.em (a1 = 5) with c2 | c2
  · have hP := hP.1 c2
    rw [if_pos c2] at hR
    refine j_tableIn (tgt := 114) (off := 113) C dX12_work_1 (by rw [c2]; decide) (by rw [c2]; decide) (by rw [c2]; decide) (by decide) ?_
    refine j_aload_n C dX12_work_114 rfl rfl ?_
    refine j_iload_n C dX12_work_115 rfl rfl ?_
    refine j_iconst (v := 0) C dX12_work_116 (by decide) ?_
    refine j_aload_n C dX12_work_117 rfl rfl ?_
    refine gM_40 C dX12_work_118 ?_
    refine j_iload_n C dX12_work_121 rfl rfl ?_
    obtain ⟨p6, hP⟩ := hP
    refine j_iald (k := 11) (v := (h 11 (a2.toNatClampNeg))) C dX12_work_122 (by decide) rfl p6 rfl ?_
    refine j_aload_n C dX12_work_123 rfl rfl ?_
    refine gM_40 C dX12_work_124 ?_
    refine j_iload C dX12_work_127 rfl ?_
    obtain ⟨p11, hP⟩ := hP
    refine j_iald (k := 11) (v := (h 11 (a3.toNatClampNeg))) C dX12_work_129 (by decide) rfl p11 rfl ?_
    refine j_imul C dX12_work_130 ?_
    obtain ⟨p14, hP⟩ := hP
    refine j_callVv C (MX12_set a2 0 ((h 11 (a2.toNatClampNeg)) * (h 11 (a3.toNatClampNeg))) h p14) dX12_work_131 (CKX12_set (by decide)) ⟨rfl, rfl⟩ lk_RX12_221 in_X12_set se_X12_set (by decide) rfl rfl rfl (Nat.le_of_ble_eq_true rfl) ?_
    intro S' h' hq
    obtain ⟨rfl, rfl⟩ := hq
    exact j_vl (tX12_work_134 C  (FX12_set a2 0 ((h 11 (a2.toNatClampNeg)) * (h 11 (a3.toNatClampNeg))) h) hP hR) trivial
  have hP := hP.2 c2
  rw [if_neg c2] at hR
  rcases Classical.em (a1 = 6) with c3 | c3
  · have hP := hP.1 c3
    rw [if_pos c3] at hR
    refine j_tableIn (tgt := 444) (off := 443) C dX12_work_1 (by rw [c3]; decide) (by rw [c3]; decide) (by rw [c3]; decide) (by decide) ?_
    exact hR _ _ dX12_work_444
  have hP := hP.2 c3
  rw [if_neg c3] at hR
  rcases Classical.em (a1 = 7) with c4 | c4
  · have hP := hP.1 c4
    rw [if_pos c4] at hR
    refine j_tableIn (tgt := 444) (off := 443) C dX12_work_1 (by rw [c4]; decide) (by rw [c4]; decide) (by rw [c4]; decide) (by decide) ?_
    exact hR _ _ dX12_work_444
  have hP := hP.2 c4
  rw [if_neg c4] at hR
  rcases Classical.em (a1 = 8) with c5 | c5
  · have hP := hP.1 c5
    rw [if_pos c5] at hR
    refine j_tableIn (tgt := 137) (off := 136) C dX12_work_1 (by rw [c5]; decide) (by rw [c5]; decide) (by rw [c5]; decide) (by decide) ?_
    refine j_aload_n C dX12_work_137 rfl rfl ?_
    refine j_iload_n C dX12_work_138 rfl rfl ?_
    refine j_iconst (v := 1) C dX12_work_139 (by decide) ?_
    refine j_aload_n C dX12_work_140 rfl rfl ?_
    refine j_iconst (v := 1) C dX12_work_141 (by decide) ?_
    refine j_aload_n C dX12_work_142 rfl rfl ?_
    refine gM_40 C dX12_work_143 ?_
    refine j_iload C dX12_work_146 rfl ?_
    obtain ⟨p8, hP⟩ := hP
    refine j_iald (k := 11) (v := (h 11 (a3.toNatClampNeg))) C dX12_work_148 (by decide) rfl p8 rfl ?_
    obtain ⟨p10, hP⟩ := hP
    refine j_callV C (MX12_newThing 1 (h 11 (a3.toNatClampNeg)) h p10) dX12_work_149 (CKX12_newThing (by decide)) ⟨rfl, rfl⟩ lk_RX12_225 in_X12_newThing se_X12_newThing (by decide) rfl rfl rfl (Nat.le_of_ble_eq_true rfl) ?_
    intro r S' h' hq
    obtain ⟨rfl, rfl, rfl⟩ := hq
    exact j_vl (tX12_work_152 C  ((FX12_newThing 1 (h 11 (a3.toNatClampNeg)) h).1) 1 a2 ((FX12_newThing 1 (h 11 (a3.toNatClampNeg)) h).2) hP hR) trivial
  have hP := hP.2 c5
  rw [if_neg c5] at hR
  rcases Classical.em (a1 = 9) with c6 | c6
  · have hP := hP.1 c6
    rw [if_pos c6] at hR
    refine j_tableIn (tgt := 158) (off := 157) C dX12_work_1 (by rw [c6]; decide) (by rw [c6]; decide) (by rw [c6]; decide) (by decide) ?_
    refine j_aload_n C dX12_work_158 rfl rfl ?_
    refine j_bipush (v := 100) C dX12_work_159 (by decide) ?_
    refine j_bipush (v := 20) C dX12_work_161 (by decide) ?_
    refine j_aload_n C dX12_work_163 rfl rfl ?_
    refine gM_40 C dX12_work_164 ?_
    refine j_iload C dX12_work_167 rfl ?_
    obtain ⟨p6, hP⟩ := hP
    refine j_iald (k := 11) (v := (h 11 (a3.toNatClampNeg))) C dX12_work_169 (by decide) rfl p6 rfl ?_
    refine j_imul C dX12_work_170 ?_
    refine j_iadd C dX12_work_171 ?_
    refine j_aload_n C dX12_work_172 rfl rfl ?_
    refine gM_40 C dX12_work_173 ?_
    refine j_iload C dX12_work_176 rfl ?_
    obtain ⟨p13, hP⟩ := hP
    refine j_iald (k := 11) (v := (h 11 (a4.toNatClampNeg))) C dX12_work_178 (by decide) rfl p13 rfl ?_
    refine j_iadd C dX12_work_179 ?_
    refine pM_228 C dX12_work_180 ?_
    refine j_aload_n C dX12_work_183 rfl rfl ?_
    refine j_iload_n C dX12_work_184 rfl rfl ?_
    refine j_iconst (v := 0) C dX12_work_185 (by decide) ?_
    refine j_aload_n C dX12_work_186 rfl rfl ?_
    refine gM_65 C dX12_work_187 ?_
    refine j_bipush (v := 16) C dX12_work_190 (by decide) ?_
    refine j_aload_n C dX12_work_192 rfl rfl ?_
    refine gM_40 C dX12_work_193 ?_
    refine j_iload C dX12_work_196 rfl ?_
    obtain ⟨p26, hP⟩ := hP
    refine j_iald (k := 11) (v := (h 11 (a3.toNatClampNeg))) C dX12_work_198 (by decide) rfl p26 (hz_k (by decide)) ?_
    refine j_imul C dX12_work_199 ?_
    refine j_aload_n C dX12_work_200 rfl rfl ?_
    refine gM_40 C dX12_work_201 ?_
    refine j_iload C dX12_work_204 rfl ?_
    obtain ⟨p32, hP⟩ := hP
    refine j_iald (k := 11) (v := (h 11 (a4.toNatClampNeg))) C dX12_work_206 (by decide) rfl p32 (hz_k (by decide)) ?_
    refine j_iadd C dX12_work_207 ?_
    obtain ⟨p35, hP⟩ := hP
    refine j_iald (k := 19) (v := (h 19 (((16 * (h 11 (a3.toNatClampNeg))) + (h 11 (a4.toNatClampNeg))).toNatClampNeg))) C dX12_work_208 (by decide) rfl p35 (hz_k (by decide)) ?_
    obtain ⟨p37, hP⟩ := hP
    refine j_callVv C (MX12_set a2 0 (h 19 (((16 * (h 11 (a3.toNatClampNeg))) + (h 11 (a4.toNatClampNeg))).toNatClampNeg)) (hs h 0 29 ((100 + (20 * (h 11 (a3.toNatClampNeg)))) + (h 11 (a4.toNatClampNeg)))) p37) dX12_work_209 (CKX12_set (by decide)) ⟨rfl, rfl⟩ lk_RX12_221 in_X12_set se_X12_set (by decide) rfl rfl rfl (Nat.le_of_ble_eq_true rfl) ?_
    intro S' h' hq
    obtain ⟨rfl, rfl⟩ := hq
    exact j_vl (tX12_work_212 C  (FX12_set a2 0 (h 19 (((16 * (h 11 (a3.toNatClampNeg))) + (h 11 (a4.toNatClampNeg))).toNatClampNeg)) (hs h 0 29 ((100 + (20 * (h 11 (a3.toNatClampNeg)))) + (h 11 (a4.toNatClampNeg))))) hP hR) trivial
  have hP := hP.2 c6
  rw [if_neg c6] at hR
  rcases Classical.em (a1 = 10) with c7 | c7
  · have hP := hP.1 c7
    rw [if_pos c7] at hR
    refine j_tableIn (tgt := 215) (off := 214) C dX12_work_1 (by rw [c7]; decide) (by rw [c7]; decide) (by rw [c7]; decide) (by decide) ?_
    refine j_aload_n C dX12_work_215 rfl rfl ?_
    refine j_bipush (v := 100) C dX12_work_216 (by decide) ?_
    refine j_bipush (v := 20) C dX12_work_218 (by decide) ?_
    refine j_aload_n C dX12_work_220 rfl rfl ?_
    refine gM_40 C dX12_work_221 ?_
    refine j_iload_n C dX12_work_224 rfl rfl ?_
    obtain ⟨p6, hP⟩ := hP
    refine j_iald (k := 11) (v := (h 11 (a2.toNatClampNeg))) C dX12_work_225 (by decide) rfl p6 rfl ?_
    refine j_imul C dX12_work_226 ?_
    refine j_iadd C dX12_work_227 ?_
    refine j_aload_n C dX12_work_228 rfl rfl ?_
    refine gM_40 C dX12_work_229 ?_
    refine j_iload C dX12_work_232 rfl ?_
    obtain ⟨p13, hP⟩ := hP
    refine j_iald (k := 11) (v := (h 11 (a3.toNatClampNeg))) C dX12_work_234 (by decide) rfl p13 rfl ?_
    refine j_iadd C dX12_work_235 ?_
    refine pM_231 C dX12_work_236 ?_
    refine j_aload_n C dX12_work_239 rfl rfl ?_
    refine gM_65 C dX12_work_240 ?_
    refine j_bipush (v := 16) C dX12_work_243 (by decide) ?_
    refine j_aload_n C dX12_work_245 rfl rfl ?_
    refine gM_40 C dX12_work_246 ?_
    refine j_iload_n C dX12_work_249 rfl rfl ?_
    obtain ⟨p23, hP⟩ := hP
    refine j_iald (k := 11) (v := (h 11 (a2.toNatClampNeg))) C dX12_work_250 (by decide) rfl p23 (hz_k (by decide)) ?_
    refine j_imul C dX12_work_251 ?_
    refine j_aload_n C dX12_work_252 rfl rfl ?_
    refine gM_40 C dX12_work_253 ?_
    refine j_iload C dX12_work_256 rfl ?_
    obtain ⟨p29, hP⟩ := hP
    refine j_iald (k := 11) (v := (h 11 (a3.toNatClampNeg))) C dX12_work_258 (by decide) rfl p29 (hz_k (by decide)) ?_
    refine j_iadd C dX12_work_259 ?_
    refine j_aload_n C dX12_work_260 rfl rfl ?_
    refine gM_40 C dX12_work_261 ?_
    refine j_iload C dX12_work_264 rfl ?_
    obtain ⟨p35, hP⟩ := hP
    refine j_iald (k := 11) (v := (h 11 (a4.toNatClampNeg))) C dX12_work_266 (by decide) rfl p35 (hz_k (by decide)) ?_
    obtain ⟨p37, hP⟩ := hP
    refine j_iast (k := 19) C dX12_work_267 (by decide) rfl p37 ?_
    refine j_goto (tgt := 444) C dX12_work_268 (by decide) ?_
    exact hR _ _ dX12_work_444
  have hP := hP.2 c7
  rw [if_neg c7] at hR
  rcases Classical.em (a1 = 11) with c8 | c8
  · have hP := hP.1 c8
    rw [if_pos c8] at hR
    refine j_tableIn (tgt := 444) (off := 443) C dX12_work_1 (by rw [c8]; decide) (by rw [c8]; decide) (by rw [c8]; decide) (by decide) ?_
    exact hR _ _ dX12_work_444
  have hP := hP.2 c8
  rw [if_neg c8] at hR
  rcases Classical.em (a1 = 12) with c9 | c9
  · have hP := hP.1 c9
    rw [if_pos c9] at hR
    refine j_tableIn (tgt := 271) (off := 270) C dX12_work_1 (by rw [c9]; decide) (by rw [c9]; decide) (by rw [c9]; decide) (by decide) ?_
    refine j_aload_n C dX12_work_271 rfl rfl ?_
    refine gM_59 C dX12_work_272 ?_
    refine j_aload_n C dX12_work_275 rfl rfl ?_
    refine gM_40 C dX12_work_276 ?_
    refine j_iload_n C dX12_work_279 rfl rfl ?_
    obtain ⟨p5, hP⟩ := hP
    refine j_iald (k := 11) (v := (h 11 (a2.toNatClampNeg))) C dX12_work_280 (by decide) rfl p5 rfl ?_
    refine j_iload_n C dX12_work_281 rfl rfl ?_
    obtain ⟨p8, hP⟩ := hP
    refine j_iast (k := 17) C dX12_work_282 (by decide) rfl p8 ?_
    refine j_aload_n C dX12_work_283 rfl rfl ?_
    refine j_iconst (v := 1) C dX12_work_284 (by decide) ?_
    refine pM_234 C dX12_work_285 ?_
    refine j_aload_n C dX12_work_288 rfl rfl ?_
    refine j_aload_n C dX12_work_289 rfl rfl ?_
    refine gM_40 C dX12_work_290 ?_
    refine j_iload_n C dX12_work_293 rfl rfl ?_
    obtain ⟨p17, hP⟩ := hP
    refine j_iald (k := 11) (v := (h 11 (a2.toNatClampNeg))) C dX12_work_294 (by decide) rfl p17 ((hz_k (by decide)).trans (hz_k (by decide))) ?_
    refine pM_237 C dX12_work_295 ?_
    refine j_goto (tgt := 444) C dX12_work_298 (by decide) ?_
    exact hR _ _ dX12_work_444
  have hP := hP.2 c9
  rw [if_neg c9] at hR
  rcases Classical.em (a1 = 13) with c10 | c10
  · have hP := hP.1 c10
    rw [if_pos c10] at hR
    refine j_tableIn (tgt := 301) (off := 300) C dX12_work_1 (by rw [c10]; decide) (by rw [c10]; decide) (by rw [c10]; decide) (by decide) ?_
    refine j_aload_n C dX12_work_301 rfl rfl ?_
    refine gM_59 C dX12_work_302 ?_
    refine j_aload_n C dX12_work_305 rfl rfl ?_
    refine gM_40 C dX12_work_306 ?_
    refine j_iload_n C dX12_work_309 rfl rfl ?_
    obtain ⟨p5, hP⟩ := hP
    refine j_iald (k := 11) (v := (h 11 (a2.toNatClampNeg))) C dX12_work_310 (by decide) rfl p5 rfl ?_
    refine j_iconst (v := (-1)) C dX12_work_311 (by decide) ?_
    obtain ⟨p8, hP⟩ := hP
    refine j_iast (k := 17) C dX12_work_312 (by decide) rfl p8 ?_
    refine j_aload_n C dX12_work_313 rfl rfl ?_
    refine j_iconst (v := 2) C dX12_work_314 (by decide) ?_
    refine pM_234 C dX12_work_315 ?_
    refine j_aload_n C dX12_work_318 rfl rfl ?_
    refine j_aload_n C dX12_work_319 rfl rfl ?_
    refine gM_40 C dX12_work_320 ?_
    refine j_iload_n C dX12_work_323 rfl rfl ?_
    obtain ⟨p17, hP⟩ := hP
    refine j_iald (k := 11) (v := (h 11 (a2.toNatClampNeg))) C dX12_work_324 (by decide) rfl p17 ((hz_k (by decide)).trans (hz_k (by decide))) ?_
    refine pM_237 C dX12_work_325 ?_
    refine j_goto (tgt := 444) C dX12_work_328 (by decide) ?_
    exact hR _ _ dX12_work_444
  have hP := hP.2 c10
  rw [if_neg c10] at hR
  rcases Classical.em (a1 = 14) with c11 | c11
  · have hP := hP.1 c11
    rw [if_pos c11] at hR
    refine j_tableIn (tgt := 331) (off := 330) C dX12_work_1 (by rw [c11]; decide) (by rw [c11]; decide) (by rw [c11]; decide) (by decide) ?_
    refine j_aload_n C dX12_work_331 rfl rfl ?_
    refine gM_59 C dX12_work_332 ?_
    refine j_aload_n C dX12_work_335 rfl rfl ?_
    refine gM_40 C dX12_work_336 ?_
    refine j_iload_n C dX12_work_339 rfl rfl ?_
    obtain ⟨p5, hP⟩ := hP
    refine j_iald (k := 11) (v := (h 11 (a2.toNatClampNeg))) C dX12_work_340 (by decide) rfl p5 rfl ?_
    refine j_iconst (v := (-1)) C dX12_work_341 (by decide) ?_
    obtain ⟨p8, hP⟩ := hP
    refine j_iast (k := 17) C dX12_work_342 (by decide) rfl p8 ?_
    refine j_aload_n C dX12_work_343 rfl rfl ?_
    refine gM_50 C dX12_work_344 ?_
    refine j_iload_n C dX12_work_347 rfl rfl ?_
    refine j_aload_n C dX12_work_348 rfl rfl ?_
    refine gM_40 C dX12_work_349 ?_
    refine j_iload_n C dX12_work_352 rfl rfl ?_
    obtain ⟨p16, hP⟩ := hP
    refine j_iald (k := 11) (v := (h 11 (a2.toNatClampNeg))) C dX12_work_353 (by decide) rfl p16 (hz_k (by decide)) ?_
    obtain ⟨p18, hP⟩ := hP
    refine j_iast (k := 14) C dX12_work_354 (by decide) rfl p18 ?_
    refine j_aload_n C dX12_work_355 rfl rfl ?_
    refine j_iconst (v := 2) C dX12_work_356 (by decide) ?_
    refine pM_234 C dX12_work_357 ?_
    refine j_aload_n C dX12_work_360 rfl rfl ?_
    refine j_aload_n C dX12_work_361 rfl rfl ?_
    refine gM_40 C dX12_work_362 ?_
    refine j_iload_n C dX12_work_365 rfl rfl ?_
    obtain ⟨p27, hP⟩ := hP
    refine j_iald (k := 11) (v := (h 11 (a2.toNatClampNeg))) C dX12_work_366 (by decide) rfl p27 ((hz_k (by decide)).trans ((hz_k (by decide)).trans (hz_k (by decide)))) ?_
    refine pM_237 C dX12_work_367 ?_
    refine j_goto (tgt := 444) C dX12_work_370 (by decide) ?_
    exact hR _ _ dX12_work_444
  have hP := hP.2 c11
  rw [if_neg c11] at hR
  rcases Classical.em (a1 = 15) with c12 | c12
  · have hP := hP.1 c12
    rw [if_pos c12] at hR
    refine j_tableIn (tgt := 373) (off := 372) C dX12_work_1 (by rw [c12]; decide) (by rw [c12]; decide) (by rw [c12]; decide) (by decide) ?_
    refine j_aload_n C dX12_work_373 rfl rfl ?_
    refine j_iconst (v := 3) C dX12_work_374 (by decide) ?_
    refine pM_234 C dX12_work_375 ?_
    refine j_aload_n C dX12_work_378 rfl rfl ?_
    refine j_aload_n C dX12_work_379 rfl rfl ?_
    refine gM_40 C dX12_work_380 ?_
    refine j_iload_n C dX12_work_383 rfl rfl ?_
    obtain ⟨p7, hP⟩ := hP
    refine j_iald (k := 11) (v := (h 11 (a2.toNatClampNeg))) C dX12_work_384 (by decide) rfl p7 (hz_k (by decide)) ?_
    refine pM_237 C dX12_work_385 ?_
    refine j_iconst (v := 0) C dX12_work_388 (by decide) ?_
    refine j_istore C dX12_work_389 (by decide) rfl ?_
    exact j_vl (tX12_work_391 C 2000 a2 0 (hs (hs h 0 31 3) 0 32 (h 11 (a2.toNatClampNeg))) hP hR) ⟨rfl, rfl, rfl, trivial⟩
  have hP := hP.2 c12
  rw [if_neg c12] at hR
  refine j_tableOut (tgt := 444) C dX12_work_1 (sw_out (fun v h1 h2 e => by rcases (show v = 3 ∨ v = 4 ∨ v = 5 ∨ v = 6 ∨ v = 7 ∨ v = 8 ∨ v = 9 ∨ v = 10 ∨ v = 11 ∨ v = 12 ∨ v = 13 ∨ v = 14 ∨ v = 15 by omega) with z | z | z | z | z | z | z | z | z | z | z | z | z <;> rw [z] at e <;> first | exact c0 (e.trans (by decide)) | exact c1 (e.trans (by decide)) | exact c2 (e.trans (by decide)) | exact c3 (e.trans (by decide)) | exact c4 (e.trans (by decide)) | exact c5 (e.trans (by decide)) | exact c6 (e.trans (by decide)) | exact c7 (e.trans (by decide)) | exact c8 (e.trans (by decide)) | exact c9 (e.trans (by decide)) | exact c10 (e.trans (by decide)) | exact c11 (e.trans (by decide)) | exact c12 (e.trans (by decide)))) (by decide) ?_
  exact hR _ _ dX12_work_444
theorem MX12_work {l0 : Launch} {Y : fj_Y} {ad : Nat → Nat} (a0 : Int32) (a1 : Int32) (a2 : Int32) (a3 : Int32) (a4 : Int32) (h : ph_H) (hP : PX12_work a0 a1 a2 a3 a4 h) : MV l0 yX12_work cX12_work 7 ({ frames := 1, cells := 0, slots := 0, locals := 24 } : Room) Y ad 50 SM h [.ref (ad 0), .int a0, .int a1, .int a2, .int a3, .int a4] (fun S' h' => S' = SM ∧ h' = FX12_work a0 a1 a2 a3 a4 h) := met_v (by decide) (Nat.le_of_ble_eq_true rfl) (fun X C K => j_vl (tX12_work C a0 a1 a2 a3 a4 h hP (fun pc lv hd => K _ _ ⟨rfl, rfl⟩ pc lv hd)) ⟨rfl, rfl, rfl, rfl, rfl, rfl, trivial⟩)
end MG_08_m01
section MG_08_m02
-- X12_workPlain
def FX12_workPlain_116  (h : ph_H) : ph_H := h
def PX12_workPlain_116  (h : ph_H) : Prop := True
set_option maxRecDepth 100000 in
set_option maxHeartbeats 4000000 in
theorem tX12_workPlain_116 {X : fj_X} {Y : fj_Y} {l0 : Launch} {ad : Nat → Nat} (C : FC X Y l0 cX12_workPlain 8 RX12 ({ frames := 1, cells := 0, slots := 0, locals := 24 } : Room) 0 0 none) (h : ph_H) (hP : PX12_workPlain_116  h) (hR : RETv X Y ad 50 SM cX12_workPlain (FX12_workPlain_116  h)) : FJ X Y ad 50 SM h 116 [] [] := by
  unfold PX12_workPlain_116 at hP
  unfold FX12_workPlain_116 at hR
  refine j_goto (tgt := 302) C dX12_workPlain_116 (by decide) ?_
  exact hR _ _ dX12_workPlain_302
def FX12_workPlain_153  (h : ph_H) : ph_H := h
def PX12_workPlain_153  (h : ph_H) : Prop := True
set_option maxRecDepth 100000 in
set_option maxHeartbeats 4000000 in
theorem tX12_workPlain_153 {X : fj_X} {Y : fj_Y} {l0 : Launch} {ad : Nat → Nat} (C : FC X Y l0 cX12_workPlain 8 RX12 ({ frames := 1, cells := 0, slots := 0, locals := 24 } : Room) 0 0 none) (h : ph_H) (hP : PX12_workPlain_153  h) (hR : RETv X Y ad 50 SM cX12_workPlain (FX12_workPlain_153  h)) : FJ X Y ad 50 SM h 153 [] [] := by
  unfold PX12_workPlain_153 at hP
  unfold FX12_workPlain_153 at hR
  refine j_goto (tgt := 302) C dX12_workPlain_153 (by decide) ?_
  exact hR _ _ dX12_workPlain_302
def FX12_workPlain_191  (h : ph_H) : ph_H := h
def PX12_workPlain_191  (h : ph_H) : Prop := True
set_option maxRecDepth 100000 in
set_option maxHeartbeats 4000000 in
theorem tX12_workPlain_191 {X : fj_X} {Y : fj_Y} {l0 : Launch} {ad : Nat → Nat} (C : FC X Y l0 cX12_workPlain 8 RX12 ({ frames := 1, cells := 0, slots := 0, locals := 24 } : Room) 0 0 none) (h : ph_H) (hP : PX12_workPlain_191  h) (hR : RETv X Y ad 50 SM cX12_workPlain (FX12_workPlain_191  h)) : FJ X Y ad 50 SM h 191 [] [] := by
  unfold PX12_workPlain_191 at hP
  unfold FX12_workPlain_191 at hR
  refine j_goto (tgt := 302) C dX12_workPlain_191 (by decide) ?_
  exact hR _ _ dX12_workPlain_302
def FX12_workPlain_222  (h : ph_H) : ph_H := h
def PX12_workPlain_222  (h : ph_H) : Prop := True
set_option maxRecDepth 100000 in
set_option maxHeartbeats 4000000 in
theorem tX12_workPlain_222 {X : fj_X} {Y : fj_Y} {l0 : Launch} {ad : Nat → Nat} (C : FC X Y l0 cX12_workPlain 8 RX12 ({ frames := 1, cells := 0, slots := 0, locals := 24 } : Room) 0 0 none) (h : ph_H) (hP : PX12_workPlain_222  h) (hR : RETv X Y ad 50 SM cX12_workPlain (FX12_workPlain_222  h)) : FJ X Y ad 50 SM h 222 [] [] := by
  unfold PX12_workPlain_222 at hP
  unfold FX12_workPlain_222 at hR
  refine j_goto (tgt := 302) C dX12_workPlain_222 (by decide) ?_
  exact hR _ _ dX12_workPlain_302
def FX12_workPlain_219  (s0 : Int32) (s1 : Int32) (s2 : Int32) (h : ph_H) : ph_H := FX12_workPlain_222  (FX12_set s2 s1 s0 h)
def PX12_workPlain_219  (s0 : Int32) (s1 : Int32) (s2 : Int32) (h : ph_H) : Prop := (PX12_set s2 s1 s0 h) ∧ (PX12_workPlain_222  (FX12_set s2 s1 s0 h))
set_option maxRecDepth 100000 in
set_option maxHeartbeats 4000000 in
theorem tX12_workPlain_219 {X : fj_X} {Y : fj_Y} {l0 : Launch} {ad : Nat → Nat} (C : FC X Y l0 cX12_workPlain 8 RX12 ({ frames := 1, cells := 0, slots := 0, locals := 24 } : Room) 0 0 none) (s0 : Int32) (s1 : Int32) (s2 : Int32) (h : ph_H) (hP : PX12_workPlain_219  s0 s1 s2 h) (hR : RETv X Y ad 50 SM cX12_workPlain (FX12_workPlain_219  s0 s1 s2 h)) : FJ X Y ad 50 SM h 219 [] [.int s0, .int s1, .int s2, .ref (ad 0)] := by
  unfold PX12_workPlain_219 at hP
  unfold FX12_workPlain_219 at hR
  obtain ⟨p0, hP⟩ := hP
  refine j_callVv C (MX12_set s2 s1 s0 h p0) dX12_workPlain_219 (CKX12_set (by decide)) ⟨rfl, rfl⟩ lk_RX12_221 in_X12_set se_X12_set (by decide) rfl rfl rfl (Nat.le_of_ble_eq_true rfl) ?_
  intro S' h' hq
  obtain ⟨rfl, rfl⟩ := hq
  exact j_vl (tX12_workPlain_222 C  (FX12_set s2 s1 s0 h) hP hR) trivial
def FX12_workPlain_206  (x3 : Int32) (s0 : Int32) (h : ph_H) : ph_H := FX12_workPlain_219  ((FX12_newThing s0 0 h).1) s0 x3 ((FX12_newThing s0 0 h).2)
def PX12_workPlain_206  (x3 : Int32) (s0 : Int32) (h : ph_H) : Prop := (PX12_newThing s0 0 h) ∧ (PX12_workPlain_219  ((FX12_newThing s0 0 h).1) s0 x3 ((FX12_newThing s0 0 h).2))
set_option maxRecDepth 100000 in
set_option maxHeartbeats 4000000 in
theorem tX12_workPlain_206 {X : fj_X} {Y : fj_Y} {l0 : Launch} {ad : Nat → Nat} (C : FC X Y l0 cX12_workPlain 8 RX12 ({ frames := 1, cells := 0, slots := 0, locals := 24 } : Room) 0 0 none) (x3 : Int32) (s0 : Int32) (h : ph_H) (hP : PX12_workPlain_206  x3 s0 h) (hR : RETv X Y ad 50 SM cX12_workPlain (FX12_workPlain_206  x3 s0 h)) : FJ X Y ad 50 SM h 206 [(0, .ref (ad 0)), (3, .int x3)] [.int s0] := by
  unfold PX12_workPlain_206 at hP
  unfold FX12_workPlain_206 at hR
  refine j_istore C dX12_workPlain_206 (by decide) rfl ?_
  refine j_aload_n C dX12_workPlain_208 rfl rfl ?_
  refine j_iload_n C dX12_workPlain_209 rfl rfl ?_
  refine j_iload C dX12_workPlain_210 rfl ?_
  refine j_aload_n C dX12_workPlain_212 rfl rfl ?_
  refine j_iload C dX12_workPlain_213 rfl ?_
  refine j_iconst (v := 0) C dX12_workPlain_215 (by decide) ?_
  obtain ⟨p7, hP⟩ := hP
  refine j_callV C (MX12_newThing s0 0 h p7) dX12_workPlain_216 (CKX12_newThing (by decide)) ⟨rfl, rfl⟩ lk_RX12_225 in_X12_newThing se_X12_newThing (by decide) rfl rfl rfl (Nat.le_of_ble_eq_true rfl) ?_
  intro r S' h' hq
  obtain ⟨rfl, rfl, rfl⟩ := hq
  exact j_vl (tX12_workPlain_219 C  ((FX12_newThing s0 0 h).1) s0 x3 ((FX12_newThing s0 0 h).2) hP hR) trivial
def FX12_workPlain_259  (h : ph_H) : ph_H := (hs h 0 23 ((h 0 23) + 1))
def PX12_workPlain_259  (h : ph_H) : Prop := True
set_option maxRecDepth 100000 in
set_option maxHeartbeats 4000000 in
theorem tX12_workPlain_259 {X : fj_X} {Y : fj_Y} {l0 : Launch} {ad : Nat → Nat} (C : FC X Y l0 cX12_workPlain 8 RX12 ({ frames := 1, cells := 0, slots := 0, locals := 24 } : Room) 0 0 none) (h : ph_H) (hP : PX12_workPlain_259  h) (hR : RETv X Y ad 50 SM cX12_workPlain (FX12_workPlain_259  h)) : FJ X Y ad 50 SM h 259 [(0, .ref (ad 0))] [] := by
  unfold PX12_workPlain_259 at hP
  unfold FX12_workPlain_259 at hR
  refine j_aload_n C dX12_workPlain_259 rfl rfl ?_
  refine j_dup C dX12_workPlain_260 rfl ?_
  refine gM_188 (v := (h 0 23)) C dX12_workPlain_261 rfl ?_
  refine j_iconst (v := 1) C dX12_workPlain_264 (by decide) ?_
  refine j_iadd C dX12_workPlain_265 ?_
  refine pM_188 C dX12_workPlain_266 ?_
  refine j_goto (tgt := 302) C dX12_workPlain_269 (by decide) ?_
  exact hR _ _ dX12_workPlain_302
def FX12_workPlain_256  (s0 : Int32) (s1 : Int32) (s2 : Int32) (h : ph_H) : ph_H := FX12_workPlain_259  (FX12_set s2 s1 s0 h)
def PX12_workPlain_256  (s0 : Int32) (s1 : Int32) (s2 : Int32) (h : ph_H) : Prop := (PX12_set s2 s1 s0 h) ∧ (PX12_workPlain_259  (FX12_set s2 s1 s0 h))
set_option maxRecDepth 100000 in
set_option maxHeartbeats 4000000 in
theorem tX12_workPlain_256 {X : fj_X} {Y : fj_Y} {l0 : Launch} {ad : Nat → Nat} (C : FC X Y l0 cX12_workPlain 8 RX12 ({ frames := 1, cells := 0, slots := 0, locals := 24 } : Room) 0 0 none) (s0 : Int32) (s1 : Int32) (s2 : Int32) (h : ph_H) (hP : PX12_workPlain_256  s0 s1 s2 h) (hR : RETv X Y ad 50 SM cX12_workPlain (FX12_workPlain_256  s0 s1 s2 h)) : FJ X Y ad 50 SM h 256 [(0, .ref (ad 0))] [.int s0, .int s1, .int s2, .ref (ad 0)] := by
  unfold PX12_workPlain_256 at hP
  unfold FX12_workPlain_256 at hR
  obtain ⟨p0, hP⟩ := hP
  refine j_callVv C (MX12_set s2 s1 s0 h p0) dX12_workPlain_256 (CKX12_set (by decide)) ⟨rfl, rfl⟩ lk_RX12_221 in_X12_set se_X12_set (by decide) rfl rfl rfl (Nat.le_of_ble_eq_true rfl) ?_
  intro S' h' hq
  obtain ⟨rfl, rfl⟩ := hq
  exact j_vl (tX12_workPlain_259 C  (FX12_set s2 s1 s0 h) hP hR) ⟨rfl, trivial⟩
def FX12_workPlain (a0 : Int32) (a1 : Int32) (a2 : Int32) (a3 : Int32) (h : ph_H) : ph_H := if (h 2 (a1.toNatClampNeg)) = 0 then (FX12_workPlain_116  (FX12_set a2 0 (h 4 (a1.toNatClampNeg)) h)) else (if (h 2 (a1.toNatClampNeg)) = 1 then (FX12_workPlain_153  (FX12_set a2 (h 10 ((FX12_modulo (h 4 (a1.toNatClampNeg)) 12).toNatClampNeg)) (h 11 ((FX12_modulo (h 4 (a1.toNatClampNeg)) 12).toNatClampNeg)) (hs h 0 29 (FX12_modulo (h 4 (a1.toNatClampNeg)) 12)))) else (if (h 2 (a1.toNatClampNeg)) = 2 then (FX12_workPlain_191  (FX12_set (FX12_modulo (h 3 (a1.toNatClampNeg)) 12) (h 10 (a3.toNatClampNeg)) (h 11 (a3.toNatClampNeg)) (hs h 0 30 (FX12_modulo (h 3 (a1.toNatClampNeg)) 12)))) else (if (h 2 (a1.toNatClampNeg)) = 3 then (h) else (if (h 2 (a1.toNatClampNeg)) = 4 then (h) else (if (h 2 (a1.toNatClampNeg)) = 5 then (h) else (if (h 2 (a1.toNatClampNeg)) = 6 then (h) else (if (h 2 (a1.toNatClampNeg)) = 7 then (h) else (if (h 2 (a1.toNatClampNeg)) = 8 then (h) else (if (h 2 (a1.toNatClampNeg)) = 9 then (h) else (if (h 2 (a1.toNatClampNeg)) = 10 then (h) else (if (h 2 (a1.toNatClampNeg)) = 11 then (if ((h 4 (a1.toNatClampNeg)) - (h 4 (a1.toNatClampNeg)) / 2 * 2) = 0 then (FX12_workPlain_206  a2 2 h) else (FX12_workPlain_206  a2 3 h)) else (if (h 2 (a1.toNatClampNeg)) = 12 then (h) else (if (h 2 (a1.toNatClampNeg)) = 13 then (h) else (if (h 2 (a1.toNatClampNeg)) = 14 then (h) else (if (h 2 (a1.toNatClampNeg)) = 15 then (h) else (if (h 2 (a1.toNatClampNeg)) = 16 then (if (h 0 33) = 0 then (FX12_workPlain_256  (h 7 ((h 0 23).toNatClampNeg)) 0 a2 h) else (FX12_workPlain_256  (h 36 ((h 0 23).toNatClampNeg)) 0 a2 h)) else (if (h 2 (a1.toNatClampNeg)) = 17 then ((hs (hs (hs h 13 (FX12_modulo (h 3 (a1.toNatClampNeg)) 4).toNatClampNeg (vp_nar .boolean 1)) 0 31 4) 0 32 (FX12_modulo (h 3 (a1.toNatClampNeg)) 4))) else (h))))))))))))))))))
def PX12_workPlain (a0 : Int32) (a1 : Int32) (a2 : Int32) (a3 : Int32) (h : ph_H) : Prop := vp_in a1 96 ∧ (vp_in a1 96 ∧ (vp_in a1 96 ∧ (((h 2 (a1.toNatClampNeg)) = 0 → ((PX12_set a2 0 (h 4 (a1.toNatClampNeg)) h) ∧ (PX12_workPlain_116  (FX12_set a2 0 (h 4 (a1.toNatClampNeg)) h)))) ∧ (¬ (h 2 (a1.toNatClampNeg)) = 0 → (((h 2 (a1.toNatClampNeg)) = 1 → ((PX12_modulo (h 4 (a1.toNatClampNeg)) 12) ∧ (vp_in (FX12_modulo (h 4 (a1.toNatClampNeg)) 12) 28 ∧ (vp_in (FX12_modulo (h 4 (a1.toNatClampNeg)) 12) 28 ∧ ((PX12_set a2 (h 10 ((FX12_modulo (h 4 (a1.toNatClampNeg)) 12).toNatClampNeg)) (h 11 ((FX12_modulo (h 4 (a1.toNatClampNeg)) 12).toNatClampNeg)) (hs h 0 29 (FX12_modulo (h 4 (a1.toNatClampNeg)) 12))) ∧ (PX12_workPlain_153  (FX12_set a2 (h 10 ((FX12_modulo (h 4 (a1.toNatClampNeg)) 12).toNatClampNeg)) (h 11 ((FX12_modulo (h 4 (a1.toNatClampNeg)) 12).toNatClampNeg)) (hs h 0 29 (FX12_modulo (h 4 (a1.toNatClampNeg)) 12))))))))) ∧ (¬ (h 2 (a1.toNatClampNeg)) = 1 → (((h 2 (a1.toNatClampNeg)) = 2 → ((PX12_modulo (h 3 (a1.toNatClampNeg)) 12) ∧ (vp_in a3 28 ∧ (vp_in a3 28 ∧ ((PX12_set (FX12_modulo (h 3 (a1.toNatClampNeg)) 12) (h 10 (a3.toNatClampNeg)) (h 11 (a3.toNatClampNeg)) (hs h 0 30 (FX12_modulo (h 3 (a1.toNatClampNeg)) 12))) ∧ (PX12_workPlain_191  (FX12_set (FX12_modulo (h 3 (a1.toNatClampNeg)) 12) (h 10 (a3.toNatClampNeg)) (h 11 (a3.toNatClampNeg)) (hs h 0 30 (FX12_modulo (h 3 (a1.toNatClampNeg)) 12))))))))) ∧ (¬ (h 2 (a1.toNatClampNeg)) = 2 → (((h 2 (a1.toNatClampNeg)) = 3 → (True)) ∧ (¬ (h 2 (a1.toNatClampNeg)) = 3 → (((h 2 (a1.toNatClampNeg)) = 4 → (True)) ∧ (¬ (h 2 (a1.toNatClampNeg)) = 4 → (((h 2 (a1.toNatClampNeg)) = 5 → (True)) ∧ (¬ (h 2 (a1.toNatClampNeg)) = 5 → (((h 2 (a1.toNatClampNeg)) = 6 → (True)) ∧ (¬ (h 2 (a1.toNatClampNeg)) = 6 → (((h 2 (a1.toNatClampNeg)) = 7 → (True)) ∧ (¬ (h 2 (a1.toNatClampNeg)) = 7 → (((h 2 (a1.toNatClampNeg)) = 8 → (True)) ∧ (¬ (h 2 (a1.toNatClampNeg)) = 8 → (((h 2 (a1.toNatClampNeg)) = 9 → (True)) ∧ (¬ (h 2 (a1.toNatClampNeg)) = 9 → (((h 2 (a1.toNatClampNeg)) = 10 → (True)) ∧ (¬ (h 2 (a1.toNatClampNeg)) = 10 → (((h 2 (a1.toNatClampNeg)) = 11 → ((((h 4 (a1.toNatClampNeg)) - (h 4 (a1.toNatClampNeg)) / 2 * 2) = 0 → (PX12_workPlain_206  a2 2 h)) ∧ (¬ ((h 4 (a1.toNatClampNeg)) - (h 4 (a1.toNatClampNeg)) / 2 * 2) = 0 → (PX12_workPlain_206  a2 3 h)))) ∧ (¬ (h 2 (a1.toNatClampNeg)) = 11 → (((h 2 (a1.toNatClampNeg)) = 12 → (True)) ∧ (¬ (h 2 (a1.toNatClampNeg)) = 12 → (((h 2 (a1.toNatClampNeg)) = 13 → (True)) ∧ (¬ (h 2 (a1.toNatClampNeg)) = 13 → (((h 2 (a1.toNatClampNeg)) = 14 → (True)) ∧ (¬ (h 2 (a1.toNatClampNeg)) = 14 → (((h 2 (a1.toNatClampNeg)) = 15 → (True)) ∧ (¬ (h 2 (a1.toNatClampNeg)) = 15 → (((h 2 (a1.toNatClampNeg)) = 16 → (((h 0 33) = 0 → (vp_in (h 0 23) 30 ∧ (PX12_workPlain_256  (h 7 ((h 0 23).toNatClampNeg)) 0 a2 h))) ∧ (¬ (h 0 33) = 0 → (vp_in (h 0 23) 30 ∧ (PX12_workPlain_256  (h 36 ((h 0 23).toNatClampNeg)) 0 a2 h))))) ∧ (¬ (h 2 (a1.toNatClampNeg)) = 16 → (((h 2 (a1.toNatClampNeg)) = 17 → ((PX12_modulo (h 3 (a1.toNatClampNeg)) 4) ∧ (vp_in (FX12_modulo (h 3 (a1.toNatClampNeg)) 4) 4 ∧ ((PX12_modulo (h 3 (a1.toNatClampNeg)) 4) ∧ (True))))) ∧ (¬ (h 2 (a1.toNatClampNeg)) = 17 → (True)))))))))))))))))))))))))))))))))))))))
set_option maxRecDepth 100000 in
set_option maxHeartbeats 4000000 in
theorem tX12_workPlain {X : fj_X} {Y : fj_Y} {l0 : Launch} {ad : Nat → Nat} (C : FC X Y l0 cX12_workPlain 8 RX12 ({ frames := 1, cells := 0, slots := 0, locals := 24 } : Room) 0 0 none) (a0 : Int32) (a1 : Int32) (a2 : Int32) (a3 : Int32) (h : ph_H) (hP : PX12_workPlain a0 a1 a2 a3 h) (hR : RETv X Y ad 50 SM cX12_workPlain (FX12_workPlain a0 a1 a2 a3 h)) : FJ X Y ad 50 SM h 0 [(0, .ref (ad 0)), (1, .int a0), (2, .int a1), (3, .int a2), (4, .int a3)] [] := by
  unfold PX12_workPlain at hP
  unfold FX12_workPlain at hR
  refine j_aload_n C dX12_workPlain_0 rfl rfl ?_
  refine gM_16 C dX12_workPlain_1 ?_
  refine j_iload_n C dX12_workPlain_4 rfl rfl ?_
  obtain ⟨p3, hP⟩ := hP
  refine j_iald (k := 3) (v := (h 3 (a1.toNatClampNeg))) C dX12_workPlain_5 (by decide) rfl p3 rfl ?_
  refine j_istore C dX12_workPlain_6 (by decide) rfl ?_
  refine j_aload_n C dX12_workPlain_8 rfl rfl ?_
  refine gM_19 C dX12_workPlain_9 ?_
  refine j_iload_n C dX12_workPlain_12 rfl rfl ?_
  obtain ⟨p9, hP⟩ := hP
  refine j_iald (k := 4) (v := (h 4 (a1.toNatClampNeg))) C dX12_workPlain_13 (by decide) rfl p9 rfl ?_
  refine j_istore C dX12_workPlain_14 (by decide) rfl ?_
  refine j_aload_n C dX12_workPlain_16 rfl rfl ?_
  refine gM_13 C dX12_workPlain_17 ?_
  refine j_iload_n C dX12_workPlain_20 rfl rfl ?_
  obtain ⟨p15, hP⟩ := hP
  refine j_iald (k := 2) (v := (h 2 (a1.toNatClampNeg))) C dX12_workPlain_21 (by decide) rfl p15 rfl ?_
  rcases Classical.em ((h 2 (a1.toNatClampNeg)) = 0) with c0 | c0
  · have hP := hP.1 c0
    rw [if_pos c0] at hR
    refine j_tableIn (tgt := 108) (off := 86) C dX12_workPlain_22 (by rw [c0]; decide) (by rw [c0]; decide) (by rw [c0]; decide) (by decide) ?_
    refine j_aload_n C dX12_workPlain_108 rfl rfl ?_
    refine j_iload_n C dX12_workPlain_109 rfl rfl ?_
    refine j_iconst (v := 0) C dX12_workPlain_110 (by decide) ?_
    refine j_iload C dX12_workPlain_111 rfl ?_
    obtain ⟨p4, hP⟩ := hP
    refine j_callVv C (MX12_set a2 0 (h 4 (a1.toNatClampNeg)) h p4) dX12_workPlain_113 (CKX12_set (by decide)) ⟨rfl, rfl⟩ lk_RX12_221 in_X12_set se_X12_set (by decide) rfl rfl rfl (Nat.le_of_ble_eq_true rfl) ?_
    intro S' h' hq
    obtain ⟨rfl, rfl⟩ := hq
    exact j_vl (tX12_workPlain_116 C  (FX12_set a2 0 (h 4 (a1.toNatClampNeg)) h) hP hR) trivial
  have hP := hP.2 c0
  rw [if_neg c0] at hR
  rcases Classical.em ((h 2 (a1.toNatClampNeg)) = 1) with c1 | c1
  · have hP := hP.1 c1
    rw [if_pos c1] at hR
    refine j_tableIn (tgt := 119) (off := 97) C dX12_workPlain_22 (by rw [c1]; decide) (by rw [c1]; decide) (by rw [c1]; decide) (by decide) ?_
    refine j_iload C dX12_workPlain_119 rfl ?_
    refine j_bipush (v := 12) C dX12_workPlain_121 (by decide) ?_
    obtain ⟨p2, hP⟩ := hP
    refine j_callS C (MX12_modulo (h 4 (a1.toNatClampNeg)) 12 h p2) dX12_workPlain_123 (CKX12_modulo (by decide)) ⟨rfl, rfl⟩ lk_RX12_204 st_X12_modulo rfl (Nat.le_of_ble_eq_true rfl) ?_
    intro r S' h' hq
    obtain ⟨rfl, hh, rfl⟩ := hq
    rw [hh]
    refine j_istore C dX12_workPlain_126 (by decide) rfl ?_
    refine j_aload_n C dX12_workPlain_128 rfl rfl ?_
    refine j_iload C dX12_workPlain_129 rfl ?_
    refine pM_228 C dX12_workPlain_131 ?_
    refine j_aload_n C dX12_workPlain_134 rfl rfl ?_
    refine j_iload_n C dX12_workPlain_135 rfl rfl ?_
    refine j_aload_n C dX12_workPlain_136 rfl rfl ?_
    refine gM_37 C dX12_workPlain_137 ?_
    refine j_iload C dX12_workPlain_140 rfl ?_
    obtain ⟨p16, hP⟩ := hP
    refine j_iald (k := 10) (v := (h 10 ((FX12_modulo (h 4 (a1.toNatClampNeg)) 12).toNatClampNeg))) C dX12_workPlain_142 (by decide) rfl p16 (hz_k (by decide)) ?_
    refine j_aload_n C dX12_workPlain_143 rfl rfl ?_
    refine gM_40 C dX12_workPlain_144 ?_
    refine j_iload C dX12_workPlain_147 rfl ?_
    obtain ⟨p21, hP⟩ := hP
    refine j_iald (k := 11) (v := (h 11 ((FX12_modulo (h 4 (a1.toNatClampNeg)) 12).toNatClampNeg))) C dX12_workPlain_149 (by decide) rfl p21 (hz_k (by decide)) ?_
    obtain ⟨p23, hP⟩ := hP
    refine j_callVv C (MX12_set a2 (h 10 ((FX12_modulo (h 4 (a1.toNatClampNeg)) 12).toNatClampNeg)) (h 11 ((FX12_modulo (h 4 (a1.toNatClampNeg)) 12).toNatClampNeg)) (hs h 0 29 (FX12_modulo (h 4 (a1.toNatClampNeg)) 12)) p23) dX12_workPlain_150 (CKX12_set (by decide)) ⟨rfl, rfl⟩ lk_RX12_221 in_X12_set se_X12_set (by decide) rfl rfl rfl (Nat.le_of_ble_eq_true rfl) ?_
    intro S' h' hq
    obtain ⟨rfl, rfl⟩ := hq
    exact j_vl (tX12_workPlain_153 C  (FX12_set a2 (h 10 ((FX12_modulo (h 4 (a1.toNatClampNeg)) 12).toNatClampNeg)) (h 11 ((FX12_modulo (h 4 (a1.toNatClampNeg)) 12).toNatClampNeg)) (hs h 0 29 (FX12_modulo (h 4 (a1.toNatClampNeg)) 12))) hP hR) trivial
  have hP := hP.2 c1
  rw [if_neg c1] at hR
  rcases Classical.em ((h 2 (a1.toNatClampNeg)) = 2) with c2 | c2
  · have hP := hP.1 c2
    rw [if_pos c2] at hR
    refine j_tableIn (tgt := 156) (off := 134) C dX12_workPlain_22 (by rw [c2]; decide) (by rw [c2]; decide) (by rw [c2]; decide) (by decide) ?_
    refine j_iload C dX12_workPlain_156 rfl ?_
    refine j_bipush (v := 12) C dX12_workPlain_158 (by decide) ?_
    obtain ⟨p2, hP⟩ := hP
    refine j_callS C (MX12_modulo (h 3 (a1.toNatClampNeg)) 12 h p2) dX12_workPlain_160 (CKX12_modulo (by decide)) ⟨rfl, rfl⟩ lk_RX12_204 st_X12_modulo rfl (Nat.le_of_ble_eq_true rfl) ?_
    intro r S' h' hq
    obtain ⟨rfl, hh, rfl⟩ := hq
    rw [hh]
    refine j_istore C dX12_workPlain_163 (by decide) rfl ?_
    refine j_aload_n C dX12_workPlain_165 rfl rfl ?_
    refine j_iload C dX12_workPlain_166 rfl ?_
    refine pM_231 C dX12_workPlain_168 ?_
    refine j_aload_n C dX12_workPlain_171 rfl rfl ?_
    refine j_iload C dX12_workPlain_172 rfl ?_
    refine j_aload_n C dX12_workPlain_174 rfl rfl ?_
    refine gM_37 C dX12_workPlain_175 ?_
    refine j_iload C dX12_workPlain_178 rfl ?_
    obtain ⟨p16, hP⟩ := hP
    refine j_iald (k := 10) (v := (h 10 (a3.toNatClampNeg))) C dX12_workPlain_180 (by decide) rfl p16 (hz_k (by decide)) ?_
    refine j_aload_n C dX12_workPlain_181 rfl rfl ?_
    refine gM_40 C dX12_workPlain_182 ?_
    refine j_iload C dX12_workPlain_185 rfl ?_
    obtain ⟨p21, hP⟩ := hP
    refine j_iald (k := 11) (v := (h 11 (a3.toNatClampNeg))) C dX12_workPlain_187 (by decide) rfl p21 (hz_k (by decide)) ?_
    obtain ⟨p23, hP⟩ := hP
    refine j_callVv C (MX12_set (FX12_modulo (h 3 (a1.toNatClampNeg)) 12) (h 10 (a3.toNatClampNeg)) (h 11 (a3.toNatClampNeg)) (hs h 0 30 (FX12_modulo (h 3 (a1.toNatClampNeg)) 12)) p23) dX12_workPlain_188 (CKX12_set (by decide)) ⟨rfl, rfl⟩ lk_RX12_221 in_X12_set se_X12_set (by decide) rfl rfl rfl (Nat.le_of_ble_eq_true rfl) ?_
    intro S' h' hq
    obtain ⟨rfl, rfl⟩ := hq
    exact j_vl (tX12_workPlain_191 C  (FX12_set (FX12_modulo (h 3 (a1.toNatClampNeg)) 12) (h 10 (a3.toNatClampNeg)) (h 11 (a3.toNatClampNeg)) (hs h 0 30 (FX12_modulo (h 3 (a1.toNatClampNeg)) 12))) hP hR) trivial
  have hP := hP.2 c2
  rw [if_neg c2] at hR
  rcases Classical.em ((h 2 (a1.toNatClampNeg)) = 3) with c3 | c3
  · have hP := hP.1 c3
    rw [if_pos c3] at hR
    refine j_tableIn (tgt := 302) (off := 280) C dX12_workPlain_22 (by rw [c3]; decide) (by rw [c3]; decide) (by rw [c3]; decide) (by decide) ?_
    exact hR _ _ dX12_workPlain_302
  have hP := hP.2 c3
  rw [if_neg c3] at hR
  rcases Classical.em ((h 2 (a1.toNatClampNeg)) = 4) with c4 | c4
  · have hP := hP.1 c4
    rw [if_pos c4] at hR
    refine j_tableIn (tgt := 302) (off := 280) C dX12_workPlain_22 (by rw [c4]; decide) (by rw [c4]; decide) (by rw [c4]; decide) (by decide) ?_
    exact hR _ _ dX12_workPlain_302
  have hP := hP.2 c4
  rw [if_neg c4] at hR
  rcases Classical.em ((h 2 (a1.toNatClampNeg)) = 5) with c5 | c5
  · have hP := hP.1 c5
    rw [if_pos c5] at hR
    refine j_tableIn (tgt := 302) (off := 280) C dX12_workPlain_22 (by rw [c5]; decide) (by rw [c5]; decide) (by rw [c5]; decide) (by decide) ?_
    exact hR _ _ dX12_workPlain_302
  have hP := hP.2 c5
  rw [if_neg c5] at hR
  rcases Classical.em ((h 2 (a1.toNatClampNeg)) = 6) with c6 | c6
  · have hP := hP.1 c6
    rw [if_pos c6] at hR
    refine j_tableIn (tgt := 302) (off := 280) C dX12_workPlain_22 (by rw [c6]; decide) (by rw [c6]; decide) (by rw [c6]; decide) (by decide) ?_
    exact hR _ _ dX12_workPlain_302
  have hP := hP.2 c6
  rw [if_neg c6] at hR
  rcases Classical.em ((h 2 (a1.toNatClampNeg)) = 7) with c7 | c7
  · have hP := hP.1 c7
    rw [if_pos c7] at hR
    refine j_tableIn (tgt := 302) (off := 280) C dX12_workPlain_22 (by rw [c7]; decide) (by rw [c7]; decide) (by rw [c7]; decide) (by decide) ?_
    exact hR _ _ dX12_workPlain_302
  have hP := hP.2 c7
  rw [if_neg c7] at hR
  rcases Classical.em ((h 2 (a1.toNatClampNeg)) = 8) with c8 | c8
  · have hP := hP.1 c8
    rw [if_pos c8] at hR
    refine j_tableIn (tgt := 302) (off := 280) C dX12_workPlain_22 (by rw [c8]; decide) (by rw [c8]; decide) (by rw [c8]; decide) (by decide) ?_
    exact hR _ _ dX12_workPlain_302
  have hP := hP.2 c8
  rw [if_neg c8] at hR
  rcases Classical.em ((h 2 (a1.toNatClampNeg)) = 9) with c9 | c9
  · have hP := hP.1 c9
    rw [if_pos c9] at hR
    refine j_tableIn (tgt := 302) (off := 280) C dX12_workPlain_22 (by rw [c9]; decide) (by rw [c9]; decide) (by rw [c9]; decide) (by decide) ?_
    exact hR _ _ dX12_workPlain_302
  have hP := hP.2 c9
  rw [if_neg c9] at hR
  rcases Classical.em ((h 2 (a1.toNatClampNeg)) = 10) with c10 | c10
  · have hP := hP.1 c10
    rw [if_pos c10] at hR
    refine j_tableIn (tgt := 302) (off := 280) C dX12_workPlain_22 (by rw [c10]; decide) (by rw [c10]; decide) (by rw [c10]; decide) (by decide) ?_
    exact hR _ _ dX12_workPlain_302
  have hP := hP.2 c10
  rw [if_neg c10] at hR
  rcases Classical.em ((h 2 (a1.toNatClampNeg)) = 11) with c11 | c11
  · have hP := hP.1 c11
    rw [if_pos c11] at hR
    refine j_tableIn (tgt := 194) (off := 172) C dX12_workPlain_22 (by rw [c11]; decide) (by rw [c11]; decide) (by rw [c11]; decide) (by decide) ?_
    refine j_iload C dX12_workPlain_194 rfl ?_
    refine j_iconst (v := 2) C dX12_workPlain_196 (by decide) ?_
    refine j_irem C dX12_workPlain_197 (by decide) ?_
    refine j_if_ne (tgt := 205) C dX12_workPlain_198 (by decide) (fun c12 => ?_) (fun c12 => ?_)
    · have hP := hP.2 c12
      rw [if_neg c12] at hR
      refine j_iconst (v := 3) C dX12_workPlain_205 (by decide) ?_
      exact j_vl (tX12_workPlain_206 C  a2 3 h hP hR) ⟨rfl, rfl, trivial⟩
    · have hP := hP.1 c12
      rw [if_pos c12] at hR
      refine j_iconst (v := 2) C dX12_workPlain_201 (by decide) ?_
      refine j_goto (tgt := 206) C dX12_workPlain_202 (by decide) ?_
      exact j_vl (tX12_workPlain_206 C  a2 2 h hP hR) ⟨rfl, rfl, trivial⟩
  have hP := hP.2 c11
  rw [if_neg c11] at hR
  rcases Classical.em ((h 2 (a1.toNatClampNeg)) = 12) with c12 | c12
  · have hP := hP.1 c12
    rw [if_pos c12] at hR
    refine j_tableIn (tgt := 302) (off := 280) C dX12_workPlain_22 (by rw [c12]; decide) (by rw [c12]; decide) (by rw [c12]; decide) (by decide) ?_
    exact hR _ _ dX12_workPlain_302
  have hP := hP.2 c12
  rw [if_neg c12] at hR
  rcases Classical.em ((h 2 (a1.toNatClampNeg)) = 13) with c13 | c13
  · have hP := hP.1 c13
    rw [if_pos c13] at hR
    refine j_tableIn (tgt := 302) (off := 280) C dX12_workPlain_22 (by rw [c13]; decide) (by rw [c13]; decide) (by rw [c13]; decide) (by decide) ?_
    exact hR _ _ dX12_workPlain_302
  have hP := hP.2 c13
  rw [if_neg c13] at hR
  rcases Classical.em ((h 2 (a1.toNatClampNeg)) = 14) with c14 | c14
  · have hP := hP.1 c14
    rw [if_pos c14] at hR
    refine j_tableIn (tgt := 302) (off := 280) C dX12_workPlain_22 (by rw [c14]; decide) (by rw [c14]; decide) (by rw [c14]; decide) (by decide) ?_
    exact hR _ _ dX12_workPlain_302
  have hP := hP.2 c14
  rw [if_neg c14] at hR
  rcases Classical.em ((h 2 (a1.toNatClampNeg)) = 15) with c15 | c15
  · have hP := hP.1 c15
    rw [if_pos c15] at hR
    refine j_tableIn (tgt := 302) (off := 280) C dX12_workPlain_22 (by rw [c15]; decide) (by rw [c15]; decide) (by rw [c15]; decide) (by decide) ?_
    exact hR _ _ dX12_workPlain_302
  have hP := hP.2 c15
  rw [if_neg c15] at hR
  rcases Classical.em ((h 2 (a1.toNatClampNeg)) = 16) with c16 | c16
  · have hP := hP.1 c16
    rw [if_pos c16] at hR
    refine j_tableIn (tgt := 225) (off := 203) C dX12_workPlain_22 (by rw [c16]; decide) (by rw [c16]; decide) (by rw [c16]; decide) (by decide) ?_
    refine j_aload_n C dX12_workPlain_225 rfl rfl ?_
    refine j_iload_n C dX12_workPlain_226 rfl rfl ?_
    refine j_iconst (v := 0) C dX12_workPlain_227 (by decide) ?_
    refine j_aload_n C dX12_workPlain_228 rfl rfl ?_
    refine gM_218 (v := (h 0 33)) C dX12_workPlain_229 rfl ?_
    refine j_if_eq (tgt := 247) C dX12_workPlain_232 (by decide) (fun c17 => ?_) (fun c17 => ?_)
    · have hP := hP.1 c17
      rw [if_pos c17] at hR
      refine j_aload_n C dX12_workPlain_247 rfl rfl ?_
      refine gM_28 C dX12_workPlain_248 ?_
      refine j_aload_n C dX12_workPlain_251 rfl rfl ?_
      refine gM_188 (v := (h 0 23)) C dX12_workPlain_252 rfl ?_
      obtain ⟨p4, hP⟩ := hP
      refine j_iald (k := 7) (v := (h 7 ((h 0 23).toNatClampNeg))) C dX12_workPlain_255 (by decide) rfl p4 rfl ?_
      exact j_vl (tX12_workPlain_256 C  (h 7 ((h 0 23).toNatClampNeg)) 0 a2 h hP hR) ⟨rfl, trivial⟩
    · have hP := hP.2 c17
      rw [if_neg c17] at hR
      refine j_aload_n C dX12_workPlain_235 rfl rfl ?_
      refine gM_117 C dX12_workPlain_236 ?_
      refine j_aload_n C dX12_workPlain_239 rfl rfl ?_
      refine gM_188 (v := (h 0 23)) C dX12_workPlain_240 rfl ?_
      obtain ⟨p4, hP⟩ := hP
      refine j_iald (k := 36) (v := (h 36 ((h 0 23).toNatClampNeg))) C dX12_workPlain_243 (by decide) rfl p4 rfl ?_
      refine j_goto (tgt := 256) C dX12_workPlain_244 (by decide) ?_
      exact j_vl (tX12_workPlain_256 C  (h 36 ((h 0 23).toNatClampNeg)) 0 a2 h hP hR) ⟨rfl, trivial⟩
  have hP := hP.2 c16
  rw [if_neg c16] at hR
  rcases Classical.em ((h 2 (a1.toNatClampNeg)) = 17) with c17 | c17
  · have hP := hP.1 c17
    rw [if_pos c17] at hR
    refine j_tableIn (tgt := 272) (off := 250) C dX12_workPlain_22 (by rw [c17]; decide) (by rw [c17]; decide) (by rw [c17]; decide) (by decide) ?_
    refine j_aload_n C dX12_workPlain_272 rfl rfl ?_
    refine gM_46 C dX12_workPlain_273 ?_
    refine j_iload C dX12_workPlain_276 rfl ?_
    refine j_iconst (v := 4) C dX12_workPlain_278 (by decide) ?_
    obtain ⟨p4, hP⟩ := hP
    refine j_callS C (MX12_modulo (h 3 (a1.toNatClampNeg)) 4 h p4) dX12_workPlain_279 (CKX12_modulo (by decide)) ⟨rfl, rfl⟩ lk_RX12_204 st_X12_modulo rfl (Nat.le_of_ble_eq_true rfl) ?_
    intro r S' h' hq
    obtain ⟨rfl, hh, rfl⟩ := hq
    rw [hh]
    refine j_iconst (v := 1) C dX12_workPlain_282 (by decide) ?_
    obtain ⟨p10, hP⟩ := hP
    refine j_zast (k := 13) C dX12_workPlain_283 (by decide) rfl p10 ?_
    refine j_aload_n C dX12_workPlain_284 rfl rfl ?_
    refine j_iconst (v := 4) C dX12_workPlain_285 (by decide) ?_
    refine pM_234 C dX12_workPlain_286 ?_
    refine j_aload_n C dX12_workPlain_289 rfl rfl ?_
    refine j_iload C dX12_workPlain_290 rfl ?_
    refine j_iconst (v := 4) C dX12_workPlain_292 (by decide) ?_
    obtain ⟨p18, hP⟩ := hP
    refine j_callS C (MX12_modulo (h 3 (a1.toNatClampNeg)) 4 (hs (hs h 13 (FX12_modulo (h 3 (a1.toNatClampNeg)) 4).toNatClampNeg (vp_nar .boolean 1)) 0 31 4) p18) dX12_workPlain_293 (CKX12_modulo (by decide)) ⟨rfl, rfl⟩ lk_RX12_204 st_X12_modulo rfl (Nat.le_of_ble_eq_true rfl) ?_
    intro r S' h' hq
    obtain ⟨rfl, hh, rfl⟩ := hq
    rw [hh]
    refine pM_237 C dX12_workPlain_296 ?_
    refine j_goto (tgt := 302) C dX12_workPlain_299 (by decide) ?_
    exact hR _ _ dX12_workPlain_302
  have hP := hP.2 c17
  rw [if_neg c17] at hR
  refine j_tableOut (tgt := 302) C dX12_workPlain_22 (sw_out (fun v h1 h2 e => by rcases (show v = 0 ∨ v = 1 ∨ v = 2 ∨ v = 3 ∨ v = 4 ∨ v = 5 ∨ v = 6 ∨ v = 7 ∨ v = 8 ∨ v = 9 ∨ v = 10 ∨ v = 11 ∨ v = 12 ∨ v = 13 ∨ v = 14 ∨ v = 15 ∨ v = 16 ∨ v = 17 by omega) with z | z | z | z | z | z | z | z | z | z | z | z | z | z | z | z | z | z <;> rw [z] at e <;> first | exact c0 (e.trans (by decide)) | exact c1 (e.trans (by decide)) | exact c2 (e.trans (by decide)) | exact c3 (e.trans (by decide)) | exact c4 (e.trans (by decide)) | exact c5 (e.trans (by decide)) | exact c6 (e.trans (by decide)) | exact c7 (e.trans (by decide)) | exact c8 (e.trans (by decide)) | exact c9 (e.trans (by decide)) | exact c10 (e.trans (by decide)) | exact c11 (e.trans (by decide)) | exact c12 (e.trans (by decide)) | exact c13 (e.trans (by decide)) | exact c14 (e.trans (by decide)) | exact c15 (e.trans (by decide)) | exact c16 (e.trans (by decide)) | exact c17 (e.trans (by decide)))) (by decide) ?_
  exact hR _ _ dX12_workPlain_302
theorem MX12_workPlain {l0 : Launch} {Y : fj_Y} {ad : Nat → Nat} (a0 : Int32) (a1 : Int32) (a2 : Int32) (a3 : Int32) (h : ph_H) (hP : PX12_workPlain a0 a1 a2 a3 h) : MV l0 yX12_workPlain cX12_workPlain 8 ({ frames := 1, cells := 0, slots := 0, locals := 24 } : Room) Y ad 50 SM h [.ref (ad 0), .int a0, .int a1, .int a2, .int a3] (fun S' h' => S' = SM ∧ h' = FX12_workPlain a0 a1 a2 a3 h) := met_v (by decide) (Nat.le_of_ble_eq_true rfl) (fun X C K => j_vl (tX12_workPlain C a0 a1 a2 a3 h hP (fun pc lv hd => K _ _ ⟨rfl, rfl⟩ pc lv hd)) ⟨rfl, rfl, rfl, rfl, rfl, trivial⟩)

-- X12_instruct
def FX12_instruct_251  (s0 : Int32) (s1 : Int32) (h : ph_H) : ph_H := (FX12_goTo s1 s0 h)
def PX12_instruct_251  (s0 : Int32) (s1 : Int32) (h : ph_H) : Prop := (PX12_goTo s1 s0 h) ∧ (True)
set_option maxRecDepth 100000 in
set_option maxHeartbeats 4000000 in
theorem tX12_instruct_251 {X : fj_X} {Y : fj_Y} {l0 : Launch} {ad : Nat → Nat} (C : FC X Y l0 cX12_instruct 8 RX12 ({ frames := 2, cells := 0, slots := 0, locals := 51 } : Room) 0 0 none) (s0 : Int32) (s1 : Int32) (h : ph_H) (hP : PX12_instruct_251  s0 s1 h) (hR : RETv X Y ad 50 SM cX12_instruct (FX12_instruct_251  s0 s1 h)) : FJ X Y ad 50 SM h 251 [] [.int s0, .int s1, .ref (ad 0)] := by
  unfold PX12_instruct_251 at hP
  unfold FX12_instruct_251 at hR
  obtain ⟨p0, hP⟩ := hP
  refine j_callVv C (MX12_goTo s1 s0 h p0) dX12_instruct_251 (CKX12_goTo (by decide)) ⟨rfl, rfl⟩ lk_RX12_246 in_X12_goTo se_X12_goTo (by decide) rfl rfl rfl (Nat.le_of_ble_eq_true rfl) ?_
  intro S' h' hq
  obtain ⟨rfl, rfl⟩ := hq
  exact hR _ _ dX12_instruct_254
def FX12_instruct_204  (x1 : Int32) (x2 : Int32) (x6 : Int32) (x7 : Int32) (h : ph_H) : ph_H := if (h 2 (x2.toNatClampNeg)) = 14 then (h) else (if (h 2 (x2.toNatClampNeg)) = 19 then (FX12_instruct_251  24 x1 h) else (if x6 = 0 then (FX12_instruct_251  ((h 12 (x1.toNatClampNeg)) + 1) x1 h) else (FX12_instruct_251  x7 x1 h)))
def PX12_instruct_204  (x1 : Int32) (x2 : Int32) (x6 : Int32) (x7 : Int32) (h : ph_H) : Prop := vp_in x2 96 ∧ (((h 2 (x2.toNatClampNeg)) = 14 → (True)) ∧ (¬ (h 2 (x2.toNatClampNeg)) = 14 → (vp_in x2 96 ∧ (((h 2 (x2.toNatClampNeg)) = 19 → (PX12_instruct_251  24 x1 h)) ∧ (¬ (h 2 (x2.toNatClampNeg)) = 19 → ((x6 = 0 → (vp_in x1 4 ∧ (PX12_instruct_251  ((h 12 (x1.toNatClampNeg)) + 1) x1 h))) ∧ (¬ x6 = 0 → (PX12_instruct_251  x7 x1 h))))))))
set_option maxRecDepth 100000 in
set_option maxHeartbeats 4000000 in
theorem tX12_instruct_204 {X : fj_X} {Y : fj_Y} {l0 : Launch} {ad : Nat → Nat} (C : FC X Y l0 cX12_instruct 8 RX12 ({ frames := 2, cells := 0, slots := 0, locals := 51 } : Room) 0 0 none) (x1 : Int32) (x2 : Int32) (x6 : Int32) (x7 : Int32) (h : ph_H) (hP : PX12_instruct_204  x1 x2 x6 x7 h) (hR : RETv X Y ad 50 SM cX12_instruct (FX12_instruct_204  x1 x2 x6 x7 h)) : FJ X Y ad 50 SM h 204 [(0, .ref (ad 0)), (1, .int x1), (2, .int x2), (6, .int x6), (7, .int x7)] [] := by
  unfold PX12_instruct_204 at hP
  unfold FX12_instruct_204 at hR
  refine j_aload_n C dX12_instruct_204 rfl rfl ?_
  refine gM_13 C dX12_instruct_205 ?_
  refine j_iload_n C dX12_instruct_208 rfl rfl ?_
  obtain ⟨p3, hP⟩ := hP
  refine j_iald (k := 2) (v := (h 2 (x2.toNatClampNeg))) C dX12_instruct_209 (by decide) rfl p3 rfl ?_
  refine j_bipush (v := 14) C dX12_instruct_210 (by decide) ?_
  refine j_icmp_eq (tgt := 254) C dX12_instruct_212 (by decide) (fun c0 => ?_) (fun c0 => ?_)
  · have hP := hP.1 c0
    rw [if_pos c0] at hR
    exact hR _ _ dX12_instruct_254
  · have hP := hP.2 c0
    rw [if_neg c0] at hR
    refine j_aload_n C dX12_instruct_215 rfl rfl ?_
    refine j_iload_n C dX12_instruct_216 rfl rfl ?_
    refine j_aload_n C dX12_instruct_217 rfl rfl ?_
    refine gM_13 C dX12_instruct_218 ?_
    refine j_iload_n C dX12_instruct_221 rfl rfl ?_
    obtain ⟨p5, hP⟩ := hP
    refine j_iald (k := 2) (v := (h 2 (x2.toNatClampNeg))) C dX12_instruct_222 (by decide) rfl p5 rfl ?_
    refine j_bipush (v := 19) C dX12_instruct_223 (by decide) ?_
    refine j_icmp_ne (tgt := 233) C dX12_instruct_225 (by decide) (fun c1 => ?_) (fun c1 => ?_)
    · have hP := hP.2 c1
      rw [if_neg c1] at hR
      refine j_iload C dX12_instruct_233 rfl ?_
      refine j_if_eq (tgt := 243) C dX12_instruct_235 (by decide) (fun c2 => ?_) (fun c2 => ?_)
      · have hP := hP.1 c2
        rw [if_pos c2] at hR
        refine j_aload_n C dX12_instruct_243 rfl rfl ?_
        refine gM_43 C dX12_instruct_244 ?_
        refine j_iload_n C dX12_instruct_247 rfl rfl ?_
        obtain ⟨p3, hP⟩ := hP
        refine j_iald (k := 12) (v := (h 12 (x1.toNatClampNeg))) C dX12_instruct_248 (by decide) rfl p3 rfl ?_
        refine j_iconst (v := 1) C dX12_instruct_249 (by decide) ?_
        refine j_iadd C dX12_instruct_250 ?_
        exact j_vl (tX12_instruct_251 C  ((h 12 (x1.toNatClampNeg)) + 1) x1 h hP hR) trivial
      · have hP := hP.2 c2
        rw [if_neg c2] at hR
        refine j_iload C dX12_instruct_238 rfl ?_
        refine j_goto (tgt := 251) C dX12_instruct_240 (by decide) ?_
        exact j_vl (tX12_instruct_251 C  x7 x1 h hP hR) trivial
    · have hP := hP.1 c1
      rw [if_pos c1] at hR
      refine j_bipush (v := 24) C dX12_instruct_228 (by decide) ?_
      refine j_goto (tgt := 251) C dX12_instruct_230 (by decide) ?_
      exact j_vl (tX12_instruct_251 C  24 x1 h hP hR) trivial
def FX12_instruct_195  (x1 : Int32) (x2 : Int32) (x3 : Int32) (x4 : Int32) (x6 : Int32) (x7 : Int32) (h : ph_H) : ph_H := FX12_instruct_204  x1 x2 x6 x7 (FX12_workPlain x1 x2 x3 x4 h)
def PX12_instruct_195  (x1 : Int32) (x2 : Int32) (x3 : Int32) (x4 : Int32) (x6 : Int32) (x7 : Int32) (h : ph_H) : Prop := (PX12_workPlain x1 x2 x3 x4 h) ∧ (PX12_instruct_204  x1 x2 x6 x7 (FX12_workPlain x1 x2 x3 x4 h))
set_option maxRecDepth 100000 in
set_option maxHeartbeats 4000000 in
theorem tX12_instruct_195 {X : fj_X} {Y : fj_Y} {l0 : Launch} {ad : Nat → Nat} (C : FC X Y l0 cX12_instruct 8 RX12 ({ frames := 2, cells := 0, slots := 0, locals := 51 } : Room) 0 0 none) (x1 : Int32) (x2 : Int32) (x3 : Int32) (x4 : Int32) (x6 : Int32) (x7 : Int32) (h : ph_H) (hP : PX12_instruct_195  x1 x2 x3 x4 x6 x7 h) (hR : RETv X Y ad 50 SM cX12_instruct (FX12_instruct_195  x1 x2 x3 x4 x6 x7 h)) : FJ X Y ad 50 SM h 195 [(0, .ref (ad 0)), (1, .int x1), (2, .int x2), (3, .int x3), (4, .int x4), (6, .int x6), (7, .int x7)] [] := by
  unfold PX12_instruct_195 at hP
  unfold FX12_instruct_195 at hR
  refine j_aload_n C dX12_instruct_195 rfl rfl ?_
  refine j_iload_n C dX12_instruct_196 rfl rfl ?_
  refine j_iload_n C dX12_instruct_197 rfl rfl ?_
  refine j_iload_n C dX12_instruct_198 rfl rfl ?_
  refine j_iload C dX12_instruct_199 rfl ?_
  obtain ⟨p5, hP⟩ := hP
  refine j_callVv C (MX12_workPlain x1 x2 x3 x4 h p5) dX12_instruct_201 (CKX12_workPlain (by decide)) ⟨rfl, rfl⟩ lk_RX12_264 in_X12_workPlain se_X12_workPlain (by decide) rfl rfl rfl (Nat.le_of_ble_eq_true rfl) ?_
  intro S' h' hq
  obtain ⟨rfl, rfl⟩ := hq
  exact j_vl (tX12_instruct_204 C  x1 x2 x6 x7 (FX12_workPlain x1 x2 x3 x4 h) hP hR) ⟨rfl, rfl, rfl, rfl, rfl, trivial⟩
def FX12_instruct_177  (x1 : Int32) (x2 : Int32) (x3 : Int32) (x4 : Int32) (x5 : Int32) (x6 : Int32) (s0 : Int32) (h : ph_H) : ph_H := FX12_instruct_195  x1 x2 x3 x4 x6 s0 (FX12_work x1 (h 2 (x2.toNatClampNeg)) x3 x4 x5 h)
def PX12_instruct_177  (x1 : Int32) (x2 : Int32) (x3 : Int32) (x4 : Int32) (x5 : Int32) (x6 : Int32) (s0 : Int32) (h : ph_H) : Prop := vp_in x2 96 ∧ ((PX12_work x1 (h 2 (x2.toNatClampNeg)) x3 x4 x5 h) ∧ (PX12_instruct_195  x1 x2 x3 x4 x6 s0 (FX12_work x1 (h 2 (x2.toNatClampNeg)) x3 x4 x5 h)))
set_option maxRecDepth 100000 in
set_option maxHeartbeats 4000000 in
theorem tX12_instruct_177 {X : fj_X} {Y : fj_Y} {l0 : Launch} {ad : Nat → Nat} (C : FC X Y l0 cX12_instruct 8 RX12 ({ frames := 2, cells := 0, slots := 0, locals := 51 } : Room) 0 0 none) (x1 : Int32) (x2 : Int32) (x3 : Int32) (x4 : Int32) (x5 : Int32) (x6 : Int32) (s0 : Int32) (h : ph_H) (hP : PX12_instruct_177  x1 x2 x3 x4 x5 x6 s0 h) (hR : RETv X Y ad 50 SM cX12_instruct (FX12_instruct_177  x1 x2 x3 x4 x5 x6 s0 h)) : FJ X Y ad 50 SM h 177 [(0, .ref (ad 0)), (1, .int x1), (2, .int x2), (3, .int x3), (4, .int x4), (5, .int x5), (6, .int x6)] [.int s0] := by
  unfold PX12_instruct_177 at hP
  unfold FX12_instruct_177 at hR
  refine j_istore C dX12_instruct_177 (by decide) rfl ?_
  refine j_aload_n C dX12_instruct_179 rfl rfl ?_
  refine j_iload_n C dX12_instruct_180 rfl rfl ?_
  refine j_aload_n C dX12_instruct_181 rfl rfl ?_
  refine gM_13 C dX12_instruct_182 ?_
  refine j_iload_n C dX12_instruct_185 rfl rfl ?_
  obtain ⟨p6, hP⟩ := hP
  refine j_iald (k := 2) (v := (h 2 (x2.toNatClampNeg))) C dX12_instruct_186 (by decide) rfl p6 rfl ?_
  refine j_iload_n C dX12_instruct_187 rfl rfl ?_
  refine j_iload C dX12_instruct_188 rfl ?_
  refine j_iload C dX12_instruct_190 rfl ?_
  obtain ⟨p11, hP⟩ := hP
  refine j_callVv C (MX12_work x1 (h 2 (x2.toNatClampNeg)) x3 x4 x5 h p11) dX12_instruct_192 (CKX12_work (by decide)) ⟨rfl, rfl⟩ lk_RX12_260 in_X12_work se_X12_work (by decide) rfl rfl rfl (Nat.le_of_ble_eq_true rfl) ?_
  intro S' h' hq
  obtain ⟨rfl, rfl⟩ := hq
  exact j_vl (tX12_instruct_195 C  x1 x2 x3 x4 x6 s0 (FX12_work x1 (h 2 (x2.toNatClampNeg)) x3 x4 x5 h) hP hR) ⟨rfl, rfl, rfl, rfl, rfl, rfl, rfl, trivial⟩
def FX12_instruct_149  (x1 : Int32) (x2 : Int32) (x3 : Int32) (x4 : Int32) (x5 : Int32) (s0 : Int32) (h : ph_H) : ph_H := if (h 2 (x2.toNatClampNeg)) = 6 then (FX12_instruct_177  x1 x2 x3 x4 x5 s0 (h 3 (x2.toNatClampNeg)) h) else (FX12_instruct_177  x1 x2 x3 x4 x5 s0 (h 4 (x2.toNatClampNeg)) h)
def PX12_instruct_149  (x1 : Int32) (x2 : Int32) (x3 : Int32) (x4 : Int32) (x5 : Int32) (s0 : Int32) (h : ph_H) : Prop := vp_in x2 96 ∧ (((h 2 (x2.toNatClampNeg)) = 6 → (vp_in x2 96 ∧ (PX12_instruct_177  x1 x2 x3 x4 x5 s0 (h 3 (x2.toNatClampNeg)) h))) ∧ (¬ (h 2 (x2.toNatClampNeg)) = 6 → (vp_in x2 96 ∧ (PX12_instruct_177  x1 x2 x3 x4 x5 s0 (h 4 (x2.toNatClampNeg)) h))))
set_option maxRecDepth 100000 in
set_option maxHeartbeats 4000000 in
theorem tX12_instruct_149 {X : fj_X} {Y : fj_Y} {l0 : Launch} {ad : Nat → Nat} (C : FC X Y l0 cX12_instruct 8 RX12 ({ frames := 2, cells := 0, slots := 0, locals := 51 } : Room) 0 0 none) (x1 : Int32) (x2 : Int32) (x3 : Int32) (x4 : Int32) (x5 : Int32) (s0 : Int32) (h : ph_H) (hP : PX12_instruct_149  x1 x2 x3 x4 x5 s0 h) (hR : RETv X Y ad 50 SM cX12_instruct (FX12_instruct_149  x1 x2 x3 x4 x5 s0 h)) : FJ X Y ad 50 SM h 149 [(0, .ref (ad 0)), (1, .int x1), (2, .int x2), (3, .int x3), (4, .int x4), (5, .int x5)] [.int s0] := by
  unfold PX12_instruct_149 at hP
  unfold FX12_instruct_149 at hR
  refine j_istore C dX12_instruct_149 (by decide) rfl ?_
  refine j_aload_n C dX12_instruct_151 rfl rfl ?_
  refine gM_13 C dX12_instruct_152 ?_
  refine j_iload_n C dX12_instruct_155 rfl rfl ?_
  obtain ⟨p4, hP⟩ := hP
  refine j_iald (k := 2) (v := (h 2 (x2.toNatClampNeg))) C dX12_instruct_156 (by decide) rfl p4 rfl ?_
  refine j_bipush (v := 6) C dX12_instruct_157 (by decide) ?_
  refine j_icmp_ne (tgt := 171) C dX12_instruct_159 (by decide) (fun c0 => ?_) (fun c0 => ?_)
  · have hP := hP.2 c0
    rw [if_neg c0] at hR
    refine j_aload_n C dX12_instruct_171 rfl rfl ?_
    refine gM_19 C dX12_instruct_172 ?_
    refine j_iload_n C dX12_instruct_175 rfl rfl ?_
    obtain ⟨p3, hP⟩ := hP
    refine j_iald (k := 4) (v := (h 4 (x2.toNatClampNeg))) C dX12_instruct_176 (by decide) rfl p3 rfl ?_
    exact j_vl (tX12_instruct_177 C  x1 x2 x3 x4 x5 s0 (h 4 (x2.toNatClampNeg)) h hP hR) ⟨rfl, rfl, rfl, rfl, rfl, rfl, rfl, trivial⟩
  · have hP := hP.1 c0
    rw [if_pos c0] at hR
    refine j_aload_n C dX12_instruct_162 rfl rfl ?_
    refine gM_16 C dX12_instruct_163 ?_
    refine j_iload_n C dX12_instruct_166 rfl rfl ?_
    obtain ⟨p3, hP⟩ := hP
    refine j_iald (k := 3) (v := (h 3 (x2.toNatClampNeg))) C dX12_instruct_167 (by decide) rfl p3 rfl ?_
    refine j_goto (tgt := 177) C dX12_instruct_168 (by decide) ?_
    exact j_vl (tX12_instruct_177 C  x1 x2 x3 x4 x5 s0 (h 3 (x2.toNatClampNeg)) h hP hR) ⟨rfl, rfl, rfl, rfl, rfl, rfl, rfl, trivial⟩
def FX12_instruct_144  (x1 : Int32) (x2 : Int32) (x3 : Int32) (x4 : Int32) (x5 : Int32) (h : ph_H) : ph_H := FX12_instruct_149  x1 x2 x3 x4 x5 1 h
def PX12_instruct_144  (x1 : Int32) (x2 : Int32) (x3 : Int32) (x4 : Int32) (x5 : Int32) (h : ph_H) : Prop := PX12_instruct_149  x1 x2 x3 x4 x5 1 h
set_option maxRecDepth 100000 in
set_option maxHeartbeats 4000000 in
theorem tX12_instruct_144 {X : fj_X} {Y : fj_Y} {l0 : Launch} {ad : Nat → Nat} (C : FC X Y l0 cX12_instruct 8 RX12 ({ frames := 2, cells := 0, slots := 0, locals := 51 } : Room) 0 0 none) (x1 : Int32) (x2 : Int32) (x3 : Int32) (x4 : Int32) (x5 : Int32) (h : ph_H) (hP : PX12_instruct_144  x1 x2 x3 x4 x5 h) (hR : RETv X Y ad 50 SM cX12_instruct (FX12_instruct_144  x1 x2 x3 x4 x5 h)) : FJ X Y ad 50 SM h 144 [(0, .ref (ad 0)), (1, .int x1), (2, .int x2), (3, .int x3), (4, .int x4), (5, .int x5)] [] := by
  unfold PX12_instruct_144 at hP
  unfold FX12_instruct_144 at hR
  refine j_iconst (v := 1) C dX12_instruct_144 (by decide) ?_
  refine j_goto (tgt := 149) C dX12_instruct_145 (by decide) ?_
  exact j_vl (tX12_instruct_149 C  x1 x2 x3 x4 x5 1 h hP hR) ⟨rfl, rfl, rfl, rfl, rfl, rfl, trivial⟩
def FX12_instruct_148  (x1 : Int32) (x2 : Int32) (x3 : Int32) (x4 : Int32) (x5 : Int32) (h : ph_H) : ph_H := FX12_instruct_149  x1 x2 x3 x4 x5 0 h
def PX12_instruct_148  (x1 : Int32) (x2 : Int32) (x3 : Int32) (x4 : Int32) (x5 : Int32) (h : ph_H) : Prop := PX12_instruct_149  x1 x2 x3 x4 x5 0 h
set_option maxRecDepth 100000 in
set_option maxHeartbeats 4000000 in
theorem tX12_instruct_148 {X : fj_X} {Y : fj_Y} {l0 : Launch} {ad : Nat → Nat} (C : FC X Y l0 cX12_instruct 8 RX12 ({ frames := 2, cells := 0, slots := 0, locals := 51 } : Room) 0 0 none) (x1 : Int32) (x2 : Int32) (x3 : Int32) (x4 : Int32) (x5 : Int32) (h : ph_H) (hP : PX12_instruct_148  x1 x2 x3 x4 x5 h) (hR : RETv X Y ad 50 SM cX12_instruct (FX12_instruct_148  x1 x2 x3 x4 x5 h)) : FJ X Y ad 50 SM h 148 [(0, .ref (ad 0)), (1, .int x1), (2, .int x2), (3, .int x3), (4, .int x4), (5, .int x5)] [] := by
  unfold PX12_instruct_148 at hP
  unfold FX12_instruct_148 at hR
  refine j_iconst (v := 0) C dX12_instruct_148 (by decide) ?_
  exact j_vl (tX12_instruct_149 C  x1 x2 x3 x4 x5 0 h hP hR) ⟨rfl, rfl, rfl, rfl, rfl, rfl, trivial⟩
def FX12_instruct_102  (x1 : Int32) (x2 : Int32) (x3 : Int32) (x4 : Int32) (x5 : Int32) (s0 : Int32) (h : ph_H) : ph_H := if s0 ≤ 0 then (if (h 2 (x2.toNatClampNeg)) = 6 then (FX12_instruct_144  x1 x2 x3 x4 x5 (hs h 0 25 s0)) else (if (h 2 (x2.toNatClampNeg)) = 7 then (if (h 11 (x3.toNatClampNeg)) = 0 then (FX12_instruct_144  x1 x2 x3 x4 x5 (hs h 0 25 s0)) else (FX12_instruct_148  x1 x2 x3 x4 x5 (hs h 0 25 s0))) else (FX12_instruct_148  x1 x2 x3 x4 x5 (hs h 0 25 s0)))) else ((hs h 0 25 s0))
def PX12_instruct_102  (x1 : Int32) (x2 : Int32) (x3 : Int32) (x4 : Int32) (x5 : Int32) (s0 : Int32) (h : ph_H) : Prop := (s0 ≤ 0 → (vp_in x2 96 ∧ (((h 2 (x2.toNatClampNeg)) = 6 → (PX12_instruct_144  x1 x2 x3 x4 x5 (hs h 0 25 s0))) ∧ (¬ (h 2 (x2.toNatClampNeg)) = 6 → (vp_in x2 96 ∧ (((h 2 (x2.toNatClampNeg)) = 7 → (vp_in x3 28 ∧ (((h 11 (x3.toNatClampNeg)) = 0 → (PX12_instruct_144  x1 x2 x3 x4 x5 (hs h 0 25 s0))) ∧ (¬ (h 11 (x3.toNatClampNeg)) = 0 → (PX12_instruct_148  x1 x2 x3 x4 x5 (hs h 0 25 s0)))))) ∧ (¬ (h 2 (x2.toNatClampNeg)) = 7 → (PX12_instruct_148  x1 x2 x3 x4 x5 (hs h 0 25 s0))))))))) ∧ (¬ s0 ≤ 0 → (True))
set_option maxRecDepth 100000 in
set_option maxHeartbeats 4000000 in
theorem tX12_instruct_102 {X : fj_X} {Y : fj_Y} {l0 : Launch} {ad : Nat → Nat} (C : FC X Y l0 cX12_instruct 8 RX12 ({ frames := 2, cells := 0, slots := 0, locals := 51 } : Room) 0 0 none) (x1 : Int32) (x2 : Int32) (x3 : Int32) (x4 : Int32) (x5 : Int32) (s0 : Int32) (h : ph_H) (hP : PX12_instruct_102  x1 x2 x3 x4 x5 s0 h) (hR : RETv X Y ad 50 SM cX12_instruct (FX12_instruct_102  x1 x2 x3 x4 x5 s0 h)) : FJ X Y ad 50 SM h 102 [(0, .ref (ad 0)), (1, .int x1), (2, .int x2), (3, .int x3), (4, .int x4), (5, .int x5)] [.int s0, .ref (ad 0)] := by
  unfold PX12_instruct_102 at hP
  unfold FX12_instruct_102 at hR
  refine pM_194 C dX12_instruct_102 ?_
  refine j_aload_n C dX12_instruct_105 rfl rfl ?_
  refine gM_194 (v := s0) C dX12_instruct_106 (hz_e) ?_
  refine j_if_le (tgt := 113) C dX12_instruct_109 (by decide) (fun c0 => ?_) (fun c0 => ?_)
  · have hP := hP.1 c0
    rw [if_pos c0] at hR
    refine j_aload_n C dX12_instruct_113 rfl rfl ?_
    refine gM_13 C dX12_instruct_114 ?_
    refine j_iload_n C dX12_instruct_117 rfl rfl ?_
    obtain ⟨p3, hP⟩ := hP
    refine j_iald (k := 2) (v := (h 2 (x2.toNatClampNeg))) C dX12_instruct_118 (by decide) rfl p3 (hz_k (by decide)) ?_
    refine j_bipush (v := 6) C dX12_instruct_119 (by decide) ?_
    refine j_icmp_eq (tgt := 144) C dX12_instruct_121 (by decide) (fun c1 => ?_) (fun c1 => ?_)
    · have hP := hP.1 c1
      rw [if_pos c1] at hR
      exact j_vl (tX12_instruct_144 C  x1 x2 x3 x4 x5 (hs h 0 25 s0) hP hR) ⟨rfl, rfl, rfl, rfl, rfl, rfl, trivial⟩
    · have hP := hP.2 c1
      rw [if_neg c1] at hR
      refine j_aload_n C dX12_instruct_124 rfl rfl ?_
      refine gM_13 C dX12_instruct_125 ?_
      refine j_iload_n C dX12_instruct_128 rfl rfl ?_
      obtain ⟨p3, hP⟩ := hP
      refine j_iald (k := 2) (v := (h 2 (x2.toNatClampNeg))) C dX12_instruct_129 (by decide) rfl p3 (hz_k (by decide)) ?_
      refine j_bipush (v := 7) C dX12_instruct_130 (by decide) ?_
      refine j_icmp_ne (tgt := 148) C dX12_instruct_132 (by decide) (fun c2 => ?_) (fun c2 => ?_)
      · have hP := hP.2 c2
        rw [if_neg c2] at hR
        exact j_vl (tX12_instruct_148 C  x1 x2 x3 x4 x5 (hs h 0 25 s0) hP hR) ⟨rfl, rfl, rfl, rfl, rfl, rfl, trivial⟩
      · have hP := hP.1 c2
        rw [if_pos c2] at hR
        refine j_aload_n C dX12_instruct_135 rfl rfl ?_
        refine gM_40 C dX12_instruct_136 ?_
        refine j_iload_n C dX12_instruct_139 rfl rfl ?_
        obtain ⟨p3, hP⟩ := hP
        refine j_iald (k := 11) (v := (h 11 (x3.toNatClampNeg))) C dX12_instruct_140 (by decide) rfl p3 (hz_k (by decide)) ?_
        refine j_if_ne (tgt := 148) C dX12_instruct_141 (by decide) (fun c3 => ?_) (fun c3 => ?_)
        · have hP := hP.2 c3
          rw [if_neg c3] at hR
          exact j_vl (tX12_instruct_148 C  x1 x2 x3 x4 x5 (hs h 0 25 s0) hP hR) ⟨rfl, rfl, rfl, rfl, rfl, rfl, trivial⟩
        · have hP := hP.1 c3
          rw [if_pos c3] at hR
          exact j_vl (tX12_instruct_144 C  x1 x2 x3 x4 x5 (hs h 0 25 s0) hP hR) ⟨rfl, rfl, rfl, rfl, rfl, rfl, trivial⟩
  · have hP := hP.2 c0
    rw [if_neg c0] at hR
    exact hR _ _ dX12_instruct_112
def FX12_instruct_98  (x1 : Int32) (x2 : Int32) (x3 : Int32) (x4 : Int32) (x5 : Int32) (h : ph_H) : ph_H := FX12_instruct_102  x1 x2 x3 x4 x5 (h 0 25) h
def PX12_instruct_98  (x1 : Int32) (x2 : Int32) (x3 : Int32) (x4 : Int32) (x5 : Int32) (h : ph_H) : Prop := PX12_instruct_102  x1 x2 x3 x4 x5 (h 0 25) h
set_option maxRecDepth 100000 in
set_option maxHeartbeats 4000000 in
theorem tX12_instruct_98 {X : fj_X} {Y : fj_Y} {l0 : Launch} {ad : Nat → Nat} (C : FC X Y l0 cX12_instruct 8 RX12 ({ frames := 2, cells := 0, slots := 0, locals := 51 } : Room) 0 0 none) (x1 : Int32) (x2 : Int32) (x3 : Int32) (x4 : Int32) (x5 : Int32) (h : ph_H) (hP : PX12_instruct_98  x1 x2 x3 x4 x5 h) (hR : RETv X Y ad 50 SM cX12_instruct (FX12_instruct_98  x1 x2 x3 x4 x5 h)) : FJ X Y ad 50 SM h 98 [(0, .ref (ad 0)), (1, .int x1), (2, .int x2), (3, .int x3), (4, .int x4), (5, .int x5)] [.ref (ad 0)] := by
  unfold PX12_instruct_98 at hP
  unfold FX12_instruct_98 at hR
  refine j_aload_n C dX12_instruct_98 rfl rfl ?_
  refine gM_194 (v := (h 0 25)) C dX12_instruct_99 rfl ?_
  exact j_vl (tX12_instruct_102 C  x1 x2 x3 x4 x5 (h 0 25) h hP hR) ⟨rfl, rfl, rfl, rfl, rfl, rfl, trivial⟩
def FX12_instruct (a0 : Int32) (a1 : Int32) (h : ph_H) : ph_H := if (h 2 (a1.toNatClampNeg)) = 17 then (if (h 13 ((FX12_modulo (h 3 (a1.toNatClampNeg)) 4).toNatClampNeg)) = 0 then (FX12_instruct_98  a0 a1 (FX12_local a0 (h 3 (a1.toNatClampNeg)) h) (FX12_local a0 (h 4 (a1.toNatClampNeg)) h) (FX12_local a0 (h 5 (a1.toNatClampNeg)) h) (hs h 0 25 (FX12_why a0 (h 2 (a1.toNatClampNeg)) (FX12_local a0 (h 3 (a1.toNatClampNeg)) h) (FX12_local a0 (h 4 (a1.toNatClampNeg)) h) (FX12_local a0 (h 5 (a1.toNatClampNeg)) h) (h 4 (a1.toNatClampNeg)) h))) else (FX12_instruct_102  a0 a1 (FX12_local a0 (h 3 (a1.toNatClampNeg)) h) (FX12_local a0 (h 4 (a1.toNatClampNeg)) h) (FX12_local a0 (h 5 (a1.toNatClampNeg)) h) 5 (hs h 0 25 (FX12_why a0 (h 2 (a1.toNatClampNeg)) (FX12_local a0 (h 3 (a1.toNatClampNeg)) h) (FX12_local a0 (h 4 (a1.toNatClampNeg)) h) (FX12_local a0 (h 5 (a1.toNatClampNeg)) h) (h 4 (a1.toNatClampNeg)) h)))) else (FX12_instruct_98  a0 a1 (FX12_local a0 (h 3 (a1.toNatClampNeg)) h) (FX12_local a0 (h 4 (a1.toNatClampNeg)) h) (FX12_local a0 (h 5 (a1.toNatClampNeg)) h) (hs h 0 25 (FX12_why a0 (h 2 (a1.toNatClampNeg)) (FX12_local a0 (h 3 (a1.toNatClampNeg)) h) (FX12_local a0 (h 4 (a1.toNatClampNeg)) h) (FX12_local a0 (h 5 (a1.toNatClampNeg)) h) (h 4 (a1.toNatClampNeg)) h)))
def PX12_instruct (a0 : Int32) (a1 : Int32) (h : ph_H) : Prop := vp_in a1 96 ∧ ((PX12_local a0 (h 3 (a1.toNatClampNeg)) h) ∧ (vp_in a1 96 ∧ ((PX12_local a0 (h 4 (a1.toNatClampNeg)) h) ∧ (vp_in a1 96 ∧ ((PX12_local a0 (h 5 (a1.toNatClampNeg)) h) ∧ (vp_in a1 96 ∧ (vp_in a1 96 ∧ ((PX12_why a0 (h 2 (a1.toNatClampNeg)) (FX12_local a0 (h 3 (a1.toNatClampNeg)) h) (FX12_local a0 (h 4 (a1.toNatClampNeg)) h) (FX12_local a0 (h 5 (a1.toNatClampNeg)) h) (h 4 (a1.toNatClampNeg)) h) ∧ (vp_in a1 96 ∧ (((h 2 (a1.toNatClampNeg)) = 17 → (vp_in a1 96 ∧ ((PX12_modulo (h 3 (a1.toNatClampNeg)) 4) ∧ (vp_in (FX12_modulo (h 3 (a1.toNatClampNeg)) 4) 4 ∧ (((h 13 ((FX12_modulo (h 3 (a1.toNatClampNeg)) 4).toNatClampNeg)) = 0 → (PX12_instruct_98  a0 a1 (FX12_local a0 (h 3 (a1.toNatClampNeg)) h) (FX12_local a0 (h 4 (a1.toNatClampNeg)) h) (FX12_local a0 (h 5 (a1.toNatClampNeg)) h) (hs h 0 25 (FX12_why a0 (h 2 (a1.toNatClampNeg)) (FX12_local a0 (h 3 (a1.toNatClampNeg)) h) (FX12_local a0 (h 4 (a1.toNatClampNeg)) h) (FX12_local a0 (h 5 (a1.toNatClampNeg)) h) (h 4 (a1.toNatClampNeg)) h)))) ∧ (¬ (h 13 ((FX12_modulo (h 3 (a1.toNatClampNeg)) 4).toNatClampNeg)) = 0 → (PX12_instruct_102  a0 a1 (FX12_local a0 (h 3 (a1.toNatClampNeg)) h) (FX12_local a0 (h 4 (a1.toNatClampNeg)) h) (FX12_local a0 (h 5 (a1.toNatClampNeg)) h) 5 (hs h 0 25 (FX12_why a0 (h 2 (a1.toNatClampNeg)) (FX12_local a0 (h 3 (a1.toNatClampNeg)) h) (FX12_local a0 (h 4 (a1.toNatClampNeg)) h) (FX12_local a0 (h 5 (a1.toNatClampNeg)) h) (h 4 (a1.toNatClampNeg)) h))))))))) ∧ (¬ (h 2 (a1.toNatClampNeg)) = 17 → (PX12_instruct_98  a0 a1 (FX12_local a0 (h 3 (a1.toNatClampNeg)) h) (FX12_local a0 (h 4 (a1.toNatClampNeg)) h) (FX12_local a0 (h 5 (a1.toNatClampNeg)) h) (hs h 0 25 (FX12_why a0 (h 2 (a1.toNatClampNeg)) (FX12_local a0 (h 3 (a1.toNatClampNeg)) h) (FX12_local a0 (h 4 (a1.toNatClampNeg)) h) (FX12_local a0 (h 5 (a1.toNatClampNeg)) h) (h 4 (a1.toNatClampNeg)) h))))))))))))))
set_option maxRecDepth 100000 in
set_option maxHeartbeats 4000000 in
theorem tX12_instruct {X : fj_X} {Y : fj_Y} {l0 : Launch} {ad : Nat → Nat} (C : FC X Y l0 cX12_instruct 8 RX12 ({ frames := 2, cells := 0, slots := 0, locals := 51 } : Room) 0 0 none) (a0 : Int32) (a1 : Int32) (h : ph_H) (hP : PX12_instruct a0 a1 h) (hR : RETv X Y ad 50 SM cX12_instruct (FX12_instruct a0 a1 h)) : FJ X Y ad 50 SM h 0 [(0, .ref (ad 0)), (1, .int a0), (2, .int a1)] [] := by
  unfold PX12_instruct at hP
  unfold FX12_instruct at hR
  refine j_aload_n C dX12_instruct_0 rfl rfl ?_
  refine j_iload_n C dX12_instruct_1 rfl rfl ?_
  refine j_aload_n C dX12_instruct_2 rfl rfl ?_
  refine gM_16 C dX12_instruct_3 ?_
  refine j_iload_n C dX12_instruct_6 rfl rfl ?_
  obtain ⟨p5, hP⟩ := hP
  refine j_iald (k := 3) (v := (h 3 (a1.toNatClampNeg))) C dX12_instruct_7 (by decide) rfl p5 rfl ?_
  obtain ⟨p7, hP⟩ := hP
  refine j_callV C (MX12_local a0 (h 3 (a1.toNatClampNeg)) h p7) dX12_instruct_8 (CKX12_local (by decide)) ⟨rfl, rfl⟩ lk_RX12_208 in_X12_local se_X12_local (by decide) rfl rfl rfl (Nat.le_of_ble_eq_true rfl) ?_
  intro r S' h' hq
  obtain ⟨rfl, hh, rfl⟩ := hq
  rw [hh]
  refine j_istore_n C dX12_instruct_11 rfl (by decide) rfl ?_
  refine j_aload_n C dX12_instruct_12 rfl rfl ?_
  refine j_iload_n C dX12_instruct_13 rfl rfl ?_
  refine j_aload_n C dX12_instruct_14 rfl rfl ?_
  refine gM_19 C dX12_instruct_15 ?_
  refine j_iload_n C dX12_instruct_18 rfl rfl ?_
  obtain ⟨p18, hP⟩ := hP
  refine j_iald (k := 4) (v := (h 4 (a1.toNatClampNeg))) C dX12_instruct_19 (by decide) rfl p18 rfl ?_
  obtain ⟨p20, hP⟩ := hP
  refine j_callV C (MX12_local a0 (h 4 (a1.toNatClampNeg)) h p20) dX12_instruct_20 (CKX12_local (by decide)) ⟨rfl, rfl⟩ lk_RX12_208 in_X12_local se_X12_local (by decide) rfl rfl rfl (Nat.le_of_ble_eq_true rfl) ?_
  intro r S' h' hq
  obtain ⟨rfl, hh, rfl⟩ := hq
  rw [hh]
  refine j_istore C dX12_instruct_23 (by decide) rfl ?_
  refine j_aload_n C dX12_instruct_25 rfl rfl ?_
  refine j_iload_n C dX12_instruct_26 rfl rfl ?_
  refine j_aload_n C dX12_instruct_27 rfl rfl ?_
  refine gM_22 C dX12_instruct_28 ?_
  refine j_iload_n C dX12_instruct_31 rfl rfl ?_
  obtain ⟨p31, hP⟩ := hP
  refine j_iald (k := 5) (v := (h 5 (a1.toNatClampNeg))) C dX12_instruct_32 (by decide) rfl p31 rfl ?_
  obtain ⟨p33, hP⟩ := hP
  refine j_callV C (MX12_local a0 (h 5 (a1.toNatClampNeg)) h p33) dX12_instruct_33 (CKX12_local (by decide)) ⟨rfl, rfl⟩ lk_RX12_208 in_X12_local se_X12_local (by decide) rfl rfl rfl (Nat.le_of_ble_eq_true rfl) ?_
  intro r S' h' hq
  obtain ⟨rfl, hh, rfl⟩ := hq
  rw [hh]
  refine j_istore C dX12_instruct_36 (by decide) rfl ?_
  refine j_aload_n C dX12_instruct_38 rfl rfl ?_
  refine j_aload_n C dX12_instruct_39 rfl rfl ?_
  refine j_iload_n C dX12_instruct_40 rfl rfl ?_
  refine j_aload_n C dX12_instruct_41 rfl rfl ?_
  refine gM_13 C dX12_instruct_42 ?_
  refine j_iload_n C dX12_instruct_45 rfl rfl ?_
  obtain ⟨p45, hP⟩ := hP
  refine j_iald (k := 2) (v := (h 2 (a1.toNatClampNeg))) C dX12_instruct_46 (by decide) rfl p45 rfl ?_
  refine j_iload_n C dX12_instruct_47 rfl rfl ?_
  refine j_iload C dX12_instruct_48 rfl ?_
  refine j_iload C dX12_instruct_50 rfl ?_
  refine j_aload_n C dX12_instruct_52 rfl rfl ?_
  refine gM_19 C dX12_instruct_53 ?_
  refine j_iload_n C dX12_instruct_56 rfl rfl ?_
  obtain ⟨p53, hP⟩ := hP
  refine j_iald (k := 4) (v := (h 4 (a1.toNatClampNeg))) C dX12_instruct_57 (by decide) rfl p53 rfl ?_
  obtain ⟨p55, hP⟩ := hP
  refine j_callV C (MX12_why a0 (h 2 (a1.toNatClampNeg)) (FX12_local a0 (h 3 (a1.toNatClampNeg)) h) (FX12_local a0 (h 4 (a1.toNatClampNeg)) h) (FX12_local a0 (h 5 (a1.toNatClampNeg)) h) (h 4 (a1.toNatClampNeg)) h p55) dX12_instruct_58 (CKX12_why (by decide)) ⟨rfl, rfl⟩ lk_RX12_256 in_X12_why se_X12_why (by decide) rfl rfl rfl (Nat.le_of_ble_eq_true rfl) ?_
  intro r S' h' hq
  obtain ⟨rfl, hh, rfl⟩ := hq
  rw [hh]
  refine pM_194 C dX12_instruct_61 ?_
  refine j_aload_n C dX12_instruct_64 rfl rfl ?_
  refine j_aload_n C dX12_instruct_65 rfl rfl ?_
  refine gM_13 C dX12_instruct_66 ?_
  refine j_iload_n C dX12_instruct_69 rfl rfl ?_
  obtain ⟨p65, hP⟩ := hP
  refine j_iald (k := 2) (v := (h 2 (a1.toNatClampNeg))) C dX12_instruct_70 (by decide) rfl p65 (hz_k (by decide)) ?_
  refine j_bipush (v := 17) C dX12_instruct_71 (by decide) ?_
  refine j_icmp_ne (tgt := 98) C dX12_instruct_73 (by decide) (fun c0 => ?_) (fun c0 => ?_)
  · have hP := hP.2 c0
    rw [if_neg c0] at hR
    exact j_vl (tX12_instruct_98 C  a0 a1 (FX12_local a0 (h 3 (a1.toNatClampNeg)) h) (FX12_local a0 (h 4 (a1.toNatClampNeg)) h) (FX12_local a0 (h 5 (a1.toNatClampNeg)) h) (hs h 0 25 (FX12_why a0 (h 2 (a1.toNatClampNeg)) (FX12_local a0 (h 3 (a1.toNatClampNeg)) h) (FX12_local a0 (h 4 (a1.toNatClampNeg)) h) (FX12_local a0 (h 5 (a1.toNatClampNeg)) h) (h 4 (a1.toNatClampNeg)) h)) hP hR) ⟨rfl, rfl, rfl, rfl, rfl, rfl, trivial⟩
  · have hP := hP.1 c0
    rw [if_pos c0] at hR
    refine j_aload_n C dX12_instruct_76 rfl rfl ?_
    refine gM_46 C dX12_instruct_77 ?_
    refine j_aload_n C dX12_instruct_80 rfl rfl ?_
    refine gM_16 C dX12_instruct_81 ?_
    refine j_iload_n C dX12_instruct_84 rfl rfl ?_
    obtain ⟨p5, hP⟩ := hP
    refine j_iald (k := 3) (v := (h 3 (a1.toNatClampNeg))) C dX12_instruct_85 (by decide) rfl p5 (hz_k (by decide)) ?_
    refine j_iconst (v := 4) C dX12_instruct_86 (by decide) ?_
    obtain ⟨p8, hP⟩ := hP
    refine j_callS C (MX12_modulo (h 3 (a1.toNatClampNeg)) 4 (hs h 0 25 (FX12_why a0 (h 2 (a1.toNatClampNeg)) (FX12_local a0 (h 3 (a1.toNatClampNeg)) h) (FX12_local a0 (h 4 (a1.toNatClampNeg)) h) (FX12_local a0 (h 5 (a1.toNatClampNeg)) h) (h 4 (a1.toNatClampNeg)) h)) p8) dX12_instruct_87 (CKX12_modulo (by decide)) ⟨rfl, rfl⟩ lk_RX12_204 st_X12_modulo rfl (Nat.le_of_ble_eq_true rfl) ?_
    intro r S' h' hq
    obtain ⟨rfl, hh, rfl⟩ := hq
    rw [hh]
    obtain ⟨p13, hP⟩ := hP
    refine j_zald (k := 13) (v := (h 13 ((FX12_modulo (h 3 (a1.toNatClampNeg)) 4).toNatClampNeg))) C dX12_instruct_90 (by decide) rfl p13 (hz_k (by decide)) ?_
    refine j_if_eq (tgt := 98) C dX12_instruct_91 (by decide) (fun c1 => ?_) (fun c1 => ?_)
    · have hP := hP.1 c1
      rw [if_pos c1] at hR
      exact j_vl (tX12_instruct_98 C  a0 a1 (FX12_local a0 (h 3 (a1.toNatClampNeg)) h) (FX12_local a0 (h 4 (a1.toNatClampNeg)) h) (FX12_local a0 (h 5 (a1.toNatClampNeg)) h) (hs h 0 25 (FX12_why a0 (h 2 (a1.toNatClampNeg)) (FX12_local a0 (h 3 (a1.toNatClampNeg)) h) (FX12_local a0 (h 4 (a1.toNatClampNeg)) h) (FX12_local a0 (h 5 (a1.toNatClampNeg)) h) (h 4 (a1.toNatClampNeg)) h)) hP hR) ⟨rfl, rfl, rfl, rfl, rfl, rfl, trivial⟩
    · have hP := hP.2 c1
      rw [if_neg c1] at hR
      refine j_iconst (v := 5) C dX12_instruct_94 (by decide) ?_
      refine j_goto (tgt := 102) C dX12_instruct_95 (by decide) ?_
      exact j_vl (tX12_instruct_102 C  a0 a1 (FX12_local a0 (h 3 (a1.toNatClampNeg)) h) (FX12_local a0 (h 4 (a1.toNatClampNeg)) h) (FX12_local a0 (h 5 (a1.toNatClampNeg)) h) 5 (hs h 0 25 (FX12_why a0 (h 2 (a1.toNatClampNeg)) (FX12_local a0 (h 3 (a1.toNatClampNeg)) h) (FX12_local a0 (h 4 (a1.toNatClampNeg)) h) (FX12_local a0 (h 5 (a1.toNatClampNeg)) h) (h 4 (a1.toNatClampNeg)) h)) hP hR) ⟨rfl, rfl, rfl, rfl, rfl, rfl, trivial⟩
theorem MX12_instruct {l0 : Launch} {Y : fj_Y} {ad : Nat → Nat} (a0 : Int32) (a1 : Int32) (h : ph_H) (hP : PX12_instruct a0 a1 h) : MV l0 yX12_instruct cX12_instruct 8 ({ frames := 2, cells := 0, slots := 0, locals := 51 } : Room) Y ad 50 SM h [.ref (ad 0), .int a0, .int a1] (fun S' h' => S' = SM ∧ h' = FX12_instruct a0 a1 h) := met_v (by decide) (Nat.le_of_ble_eq_true rfl) (fun X C K => j_vl (tX12_instruct C a0 a1 h hP (fun pc lv hd => K _ _ ⟨rfl, rfl⟩ pc lv hd)) ⟨rfl, rfl, rfl, trivial⟩)
end MG_08_m02
section MG_08_m03
-- X12_step
def FX12_step_154  (x1 : Int32) (h : ph_H) : ph_H := (hs (hs h 0 24 ((h 0 24) + 1)) 0 26 x1)
def PX12_step_154  (x1 : Int32) (h : ph_H) : Prop := True
set_option maxRecDepth 100000 in
set_option maxHeartbeats 4000000 in
theorem tX12_step_154 {X : fj_X} {Y : fj_Y} {l0 : Launch} {ad : Nat → Nat} (C : FC X Y l0 cX12_step 3 RX12 ({ frames := 3, cells := 0, slots := 0, locals := 78 } : Room) 0 0 none) (x1 : Int32) (h : ph_H) (hP : PX12_step_154  x1 h) (hR : RETv X Y ad 50 SM cX12_step (FX12_step_154  x1 h)) : FJ X Y ad 50 SM h 154 [(0, .ref (ad 0)), (1, .int x1)] [] := by
  unfold PX12_step_154 at hP
  unfold FX12_step_154 at hR
  refine j_aload_n C dX12_step_154 rfl rfl ?_
  refine j_dup C dX12_step_155 rfl ?_
  refine gM_191 (v := (h 0 24)) C dX12_step_156 rfl ?_
  refine j_iconst (v := 1) C dX12_step_159 (by decide) ?_
  refine j_iadd C dX12_step_160 ?_
  refine pM_191 C dX12_step_161 ?_
  refine j_aload_n C dX12_step_164 rfl rfl ?_
  refine j_iload_n C dX12_step_165 rfl rfl ?_
  refine pM_197 C dX12_step_166 ?_
  exact hR _ _ dX12_step_169
def FX12_step_110  (x1 : Int32) (h : ph_H) : ph_H := FX12_step_154  x1 h
def PX12_step_110  (x1 : Int32) (h : ph_H) : Prop := PX12_step_154  x1 h
set_option maxRecDepth 100000 in
set_option maxHeartbeats 4000000 in
theorem tX12_step_110 {X : fj_X} {Y : fj_Y} {l0 : Launch} {ad : Nat → Nat} (C : FC X Y l0 cX12_step 3 RX12 ({ frames := 3, cells := 0, slots := 0, locals := 78 } : Room) 0 0 none) (x1 : Int32) (h : ph_H) (hP : PX12_step_110  x1 h) (hR : RETv X Y ad 50 SM cX12_step (FX12_step_110  x1 h)) : FJ X Y ad 50 SM h 110 [(0, .ref (ad 0)), (1, .int x1)] [] := by
  unfold PX12_step_110 at hP
  unfold FX12_step_110 at hR
  refine j_goto (tgt := 154) C dX12_step_110 (by decide) ?_
  exact j_vl (tX12_step_154 C  x1 h hP hR) ⟨rfl, rfl, trivial⟩
def FX12_step_148  (x1 : Int32) (x2 : Int32) (h : ph_H) : ph_H := FX12_step_154  x1 (FX12_instruct x1 x2 h)
def PX12_step_148  (x1 : Int32) (x2 : Int32) (h : ph_H) : Prop := (PX12_instruct x1 x2 h) ∧ (PX12_step_154  x1 (FX12_instruct x1 x2 h))
set_option maxRecDepth 100000 in
set_option maxHeartbeats 4000000 in
theorem tX12_step_148 {X : fj_X} {Y : fj_Y} {l0 : Launch} {ad : Nat → Nat} (C : FC X Y l0 cX12_step 3 RX12 ({ frames := 3, cells := 0, slots := 0, locals := 78 } : Room) 0 0 none) (x1 : Int32) (x2 : Int32) (h : ph_H) (hP : PX12_step_148  x1 x2 h) (hR : RETv X Y ad 50 SM cX12_step (FX12_step_148  x1 x2 h)) : FJ X Y ad 50 SM h 148 [(0, .ref (ad 0)), (1, .int x1), (2, .int x2)] [] := by
  unfold PX12_step_148 at hP
  unfold FX12_step_148 at hR
  refine j_aload_n C dX12_step_148 rfl rfl ?_
  refine j_iload_n C dX12_step_149 rfl rfl ?_
  refine j_iload_n C dX12_step_150 rfl rfl ?_
  obtain ⟨p3, hP⟩ := hP
  refine j_callVv C (MX12_instruct x1 x2 h p3) dX12_step_151 (CKX12_instruct (by decide)) ⟨rfl, rfl⟩ lk_RX12_253 in_X12_instruct se_X12_instruct (by decide) rfl rfl rfl (Nat.le_of_ble_eq_true rfl) ?_
  intro S' h' hq
  obtain ⟨rfl, rfl⟩ := hq
  exact j_vl (tX12_step_154 C  x1 (FX12_instruct x1 x2 h) hP hR) ⟨rfl, rfl, trivial⟩
def FX12_step (a0 : Int32) (h : ph_H) : ph_H := if (h 15 (a0.toNatClampNeg)) < 0 then (if (h 2 (((24 * a0) + (h 12 (a0.toNatClampNeg))).toNatClampNeg)) = 16 then (if (h 0 33) = 0 then (FX12_step_148  a0 ((24 * a0) + (h 12 (a0.toNatClampNeg))) (hs (hs (hs (hs (hs (hs h 0 27 (h 12 (a0.toNatClampNeg))) 0 28 (h 2 (((24 * a0) + (h 12 (a0.toNatClampNeg))).toNatClampNeg))) 0 29 (-2)) 0 30 (-2)) 0 31 0) 0 32 (-1))) else (if (h 0 23) = (h 0 34) then ((hs (hs (hs (hs (hs (hs (hs h 0 27 (h 12 (a0.toNatClampNeg))) 0 28 (h 2 (((24 * a0) + (h 12 (a0.toNatClampNeg))).toNatClampNeg))) 0 29 (-2)) 0 30 (-2)) 0 31 0) 0 32 (-1)) 0 35 1)) else (FX12_step_148  a0 ((24 * a0) + (h 12 (a0.toNatClampNeg))) (hs (hs (hs (hs (hs (hs h 0 27 (h 12 (a0.toNatClampNeg))) 0 28 (h 2 (((24 * a0) + (h 12 (a0.toNatClampNeg))).toNatClampNeg))) 0 29 (-2)) 0 30 (-2)) 0 31 0) 0 32 (-1))))) else (FX12_step_148  a0 ((24 * a0) + (h 12 (a0.toNatClampNeg))) (hs (hs (hs (hs (hs (hs h 0 27 (h 12 (a0.toNatClampNeg))) 0 28 (h 2 (((24 * a0) + (h 12 (a0.toNatClampNeg))).toNatClampNeg))) 0 29 (-2)) 0 30 (-2)) 0 31 0) 0 32 (-1)))) else (FX12_step_110  a0 (FX12_goTo a0 ((h 12 (a0.toNatClampNeg)) + 1) (hs (hs (hs (hs (hs (hs (hs (hs (hs (hs h 0 27 (h 12 (a0.toNatClampNeg))) 0 28 (h 2 (((24 * a0) + (h 12 (a0.toNatClampNeg))).toNatClampNeg))) 0 29 (-2)) 0 30 (-2)) 0 31 0) 0 32 (-1)) 17 (h 15 (a0.toNatClampNeg)).toNatClampNeg a0) 0 31 1) 0 32 (h 15 (a0.toNatClampNeg))) 15 a0.toNatClampNeg (-1))))
def PX12_step (a0 : Int32) (h : ph_H) : Prop := vp_in a0 4 ∧ (vp_in a0 4 ∧ (vp_in ((24 * a0) + (h 12 (a0.toNatClampNeg))) 96 ∧ (vp_in a0 4 ∧ (((h 15 (a0.toNatClampNeg)) < 0 → (vp_in ((24 * a0) + (h 12 (a0.toNatClampNeg))) 96 ∧ (((h 2 (((24 * a0) + (h 12 (a0.toNatClampNeg))).toNatClampNeg)) = 16 → (((h 0 33) = 0 → (PX12_step_148  a0 ((24 * a0) + (h 12 (a0.toNatClampNeg))) (hs (hs (hs (hs (hs (hs h 0 27 (h 12 (a0.toNatClampNeg))) 0 28 (h 2 (((24 * a0) + (h 12 (a0.toNatClampNeg))).toNatClampNeg))) 0 29 (-2)) 0 30 (-2)) 0 31 0) 0 32 (-1)))) ∧ (¬ (h 0 33) = 0 → (((h 0 23) = (h 0 34) → (True)) ∧ (¬ (h 0 23) = (h 0 34) → (PX12_step_148  a0 ((24 * a0) + (h 12 (a0.toNatClampNeg))) (hs (hs (hs (hs (hs (hs h 0 27 (h 12 (a0.toNatClampNeg))) 0 28 (h 2 (((24 * a0) + (h 12 (a0.toNatClampNeg))).toNatClampNeg))) 0 29 (-2)) 0 30 (-2)) 0 31 0) 0 32 (-1)))))))) ∧ (¬ (h 2 (((24 * a0) + (h 12 (a0.toNatClampNeg))).toNatClampNeg)) = 16 → (PX12_step_148  a0 ((24 * a0) + (h 12 (a0.toNatClampNeg))) (hs (hs (hs (hs (hs (hs h 0 27 (h 12 (a0.toNatClampNeg))) 0 28 (h 2 (((24 * a0) + (h 12 (a0.toNatClampNeg))).toNatClampNeg))) 0 29 (-2)) 0 30 (-2)) 0 31 0) 0 32 (-1))))))) ∧ (¬ (h 15 (a0.toNatClampNeg)) < 0 → (vp_in a0 4 ∧ (vp_in (h 15 (a0.toNatClampNeg)) 12 ∧ (vp_in a0 4 ∧ (vp_in a0 4 ∧ (vp_in a0 4 ∧ ((PX12_goTo a0 ((h 12 (a0.toNatClampNeg)) + 1) (hs (hs (hs (hs (hs (hs (hs (hs (hs (hs h 0 27 (h 12 (a0.toNatClampNeg))) 0 28 (h 2 (((24 * a0) + (h 12 (a0.toNatClampNeg))).toNatClampNeg))) 0 29 (-2)) 0 30 (-2)) 0 31 0) 0 32 (-1)) 17 (h 15 (a0.toNatClampNeg)).toNatClampNeg a0) 0 31 1) 0 32 (h 15 (a0.toNatClampNeg))) 15 a0.toNatClampNeg (-1))) ∧ (PX12_step_110  a0 (FX12_goTo a0 ((h 12 (a0.toNatClampNeg)) + 1) (hs (hs (hs (hs (hs (hs (hs (hs (hs (hs h 0 27 (h 12 (a0.toNatClampNeg))) 0 28 (h 2 (((24 * a0) + (h 12 (a0.toNatClampNeg))).toNatClampNeg))) 0 29 (-2)) 0 30 (-2)) 0 31 0) 0 32 (-1)) 17 (h 15 (a0.toNatClampNeg)).toNatClampNeg a0) 0 31 1) 0 32 (h 15 (a0.toNatClampNeg))) 15 a0.toNatClampNeg (-1)))))))))))))))
set_option maxRecDepth 100000 in
set_option maxHeartbeats 4000000 in
theorem tX12_step {X : fj_X} {Y : fj_Y} {l0 : Launch} {ad : Nat → Nat} (C : FC X Y l0 cX12_step 3 RX12 ({ frames := 3, cells := 0, slots := 0, locals := 78 } : Room) 0 0 none) (a0 : Int32) (h : ph_H) (hP : PX12_step a0 h) (hR : RETv X Y ad 50 SM cX12_step (FX12_step a0 h)) : FJ X Y ad 50 SM h 0 [(0, .ref (ad 0)), (1, .int a0)] [] := by
  unfold PX12_step at hP
  unfold FX12_step at hR
  refine j_bipush (v := 24) C dX12_step_0 (by decide) ?_
  refine j_iload_n C dX12_step_2 rfl rfl ?_
  refine j_imul C dX12_step_3 ?_
  refine j_aload_n C dX12_step_4 rfl rfl ?_
  refine gM_43 C dX12_step_5 ?_
  refine j_iload_n C dX12_step_8 rfl rfl ?_
  obtain ⟨p6, hP⟩ := hP
  refine j_iald (k := 12) (v := (h 12 (a0.toNatClampNeg))) C dX12_step_9 (by decide) rfl p6 rfl ?_
  refine j_iadd C dX12_step_10 ?_
  refine j_istore_n C dX12_step_11 rfl (by decide) rfl ?_
  refine j_aload_n C dX12_step_12 rfl rfl ?_
  refine j_aload_n C dX12_step_13 rfl rfl ?_
  refine gM_43 C dX12_step_14 ?_
  refine j_iload_n C dX12_step_17 rfl rfl ?_
  obtain ⟨p14, hP⟩ := hP
  refine j_iald (k := 12) (v := (h 12 (a0.toNatClampNeg))) C dX12_step_18 (by decide) rfl p14 rfl ?_
  refine pM_240 C dX12_step_19 ?_
  refine j_aload_n C dX12_step_22 rfl rfl ?_
  refine j_aload_n C dX12_step_23 rfl rfl ?_
  refine gM_13 C dX12_step_24 ?_
  refine j_iload_n C dX12_step_27 rfl rfl ?_
  obtain ⟨p21, hP⟩ := hP
  refine j_iald (k := 2) (v := (h 2 (((24 * a0) + (h 12 (a0.toNatClampNeg))).toNatClampNeg))) C dX12_step_28 (by decide) rfl p21 (hz_k (by decide)) ?_
  refine pM_243 C dX12_step_29 ?_
  refine j_aload_n C dX12_step_32 rfl rfl ?_
  refine j_bipush (v := (-2)) C dX12_step_33 (by decide) ?_
  refine pM_228 C dX12_step_35 ?_
  refine j_aload_n C dX12_step_38 rfl rfl ?_
  refine j_bipush (v := (-2)) C dX12_step_39 (by decide) ?_
  refine pM_231 C dX12_step_41 ?_
  refine j_aload_n C dX12_step_44 rfl rfl ?_
  refine j_iconst (v := 0) C dX12_step_45 (by decide) ?_
  refine pM_234 C dX12_step_46 ?_
  refine j_aload_n C dX12_step_49 rfl rfl ?_
  refine j_iconst (v := (-1)) C dX12_step_50 (by decide) ?_
  refine pM_237 C dX12_step_51 ?_
  refine j_aload_n C dX12_step_54 rfl rfl ?_
  refine gM_53 C dX12_step_55 ?_
  refine j_iload_n C dX12_step_58 rfl rfl ?_
  obtain ⟨p39, hP⟩ := hP
  refine j_iald (k := 15) (v := (h 15 (a0.toNatClampNeg))) C dX12_step_59 (by decide) rfl p39 ((hz_k (by decide)).trans ((hz_k (by decide)).trans ((hz_k (by decide)).trans ((hz_k (by decide)).trans ((hz_k (by decide)).trans (hz_k (by decide))))))) ?_
  refine j_if_lt (tgt := 113) C dX12_step_60 (by decide) (fun c0 => ?_) (fun c0 => ?_)
  · have hP := hP.1 c0
    rw [if_pos c0] at hR
    refine j_aload_n C dX12_step_113 rfl rfl ?_
    refine gM_13 C dX12_step_114 ?_
    refine j_iload_n C dX12_step_117 rfl rfl ?_
    obtain ⟨p3, hP⟩ := hP
    refine j_iald (k := 2) (v := (h 2 (((24 * a0) + (h 12 (a0.toNatClampNeg))).toNatClampNeg))) C dX12_step_118 (by decide) rfl p3 ((hz_k (by decide)).trans ((hz_k (by decide)).trans ((hz_k (by decide)).trans ((hz_k (by decide)).trans ((hz_k (by decide)).trans (hz_k (by decide))))))) ?_
    refine j_bipush (v := 16) C dX12_step_119 (by decide) ?_
    refine j_icmp_ne (tgt := 148) C dX12_step_121 (by decide) (fun c1 => ?_) (fun c1 => ?_)
    · have hP := hP.2 c1
      rw [if_neg c1] at hR
      exact j_vl (tX12_step_148 C  a0 ((24 * a0) + (h 12 (a0.toNatClampNeg))) (hs (hs (hs (hs (hs (hs h 0 27 (h 12 (a0.toNatClampNeg))) 0 28 (h 2 (((24 * a0) + (h 12 (a0.toNatClampNeg))).toNatClampNeg))) 0 29 (-2)) 0 30 (-2)) 0 31 0) 0 32 (-1)) hP hR) ⟨rfl, rfl, rfl, trivial⟩
    · have hP := hP.1 c1
      rw [if_pos c1] at hR
      refine j_aload_n C dX12_step_124 rfl rfl ?_
      refine gM_218 (v := (h 0 33)) C dX12_step_125 ((hz_i (by decide)).trans ((hz_i (by decide)).trans ((hz_i (by decide)).trans ((hz_i (by decide)).trans ((hz_i (by decide)).trans (hz_i (by decide))))))) ?_
      refine j_if_eq (tgt := 148) C dX12_step_128 (by decide) (fun c2 => ?_) (fun c2 => ?_)
      · have hP := hP.1 c2
        rw [if_pos c2] at hR
        exact j_vl (tX12_step_148 C  a0 ((24 * a0) + (h 12 (a0.toNatClampNeg))) (hs (hs (hs (hs (hs (hs h 0 27 (h 12 (a0.toNatClampNeg))) 0 28 (h 2 (((24 * a0) + (h 12 (a0.toNatClampNeg))).toNatClampNeg))) 0 29 (-2)) 0 30 (-2)) 0 31 0) 0 32 (-1)) hP hR) ⟨rfl, rfl, rfl, trivial⟩
      · have hP := hP.2 c2
        rw [if_neg c2] at hR
        refine j_aload_n C dX12_step_131 rfl rfl ?_
        refine gM_188 (v := (h 0 23)) C dX12_step_132 ((hz_i (by decide)).trans ((hz_i (by decide)).trans ((hz_i (by decide)).trans ((hz_i (by decide)).trans ((hz_i (by decide)).trans (hz_i (by decide))))))) ?_
        refine j_aload_n C dX12_step_135 rfl rfl ?_
        refine gM_250 (v := (h 0 34)) C dX12_step_136 ((hz_i (by decide)).trans ((hz_i (by decide)).trans ((hz_i (by decide)).trans ((hz_i (by decide)).trans ((hz_i (by decide)).trans (hz_i (by decide))))))) ?_
        refine j_icmp_ne (tgt := 148) C dX12_step_139 (by decide) (fun c3 => ?_) (fun c3 => ?_)
        · have hP := hP.2 c3
          rw [if_neg c3] at hR
          exact j_vl (tX12_step_148 C  a0 ((24 * a0) + (h 12 (a0.toNatClampNeg))) (hs (hs (hs (hs (hs (hs h 0 27 (h 12 (a0.toNatClampNeg))) 0 28 (h 2 (((24 * a0) + (h 12 (a0.toNatClampNeg))).toNatClampNeg))) 0 29 (-2)) 0 30 (-2)) 0 31 0) 0 32 (-1)) hP hR) ⟨rfl, rfl, rfl, trivial⟩
        · have hP := hP.1 c3
          rw [if_pos c3] at hR
          refine j_aload_n C dX12_step_142 rfl rfl ?_
          refine j_iconst (v := 1) C dX12_step_143 (by decide) ?_
          refine pM_200 C dX12_step_144 bo_1 ?_
          exact hR _ _ dX12_step_147
  · have hP := hP.2 c0
    rw [if_neg c0] at hR
    refine j_aload_n C dX12_step_63 rfl rfl ?_
    refine gM_59 C dX12_step_64 ?_
    refine j_aload_n C dX12_step_67 rfl rfl ?_
    refine gM_53 C dX12_step_68 ?_
    refine j_iload_n C dX12_step_71 rfl rfl ?_
    obtain ⟨p5, hP⟩ := hP
    refine j_iald (k := 15) (v := (h 15 (a0.toNatClampNeg))) C dX12_step_72 (by decide) rfl p5 ((hz_k (by decide)).trans ((hz_k (by decide)).trans ((hz_k (by decide)).trans ((hz_k (by decide)).trans ((hz_k (by decide)).trans (hz_k (by decide))))))) ?_
    refine j_iload_n C dX12_step_73 rfl rfl ?_
    obtain ⟨p8, hP⟩ := hP
    refine j_iast (k := 17) C dX12_step_74 (by decide) rfl p8 ?_
    refine j_aload_n C dX12_step_75 rfl rfl ?_
    refine j_iconst (v := 1) C dX12_step_76 (by decide) ?_
    refine pM_234 C dX12_step_77 ?_
    refine j_aload_n C dX12_step_80 rfl rfl ?_
    refine j_aload_n C dX12_step_81 rfl rfl ?_
    refine gM_53 C dX12_step_82 ?_
    refine j_iload_n C dX12_step_85 rfl rfl ?_
    obtain ⟨p17, hP⟩ := hP
    refine j_iald (k := 15) (v := (h 15 (a0.toNatClampNeg))) C dX12_step_86 (by decide) rfl p17 ((hz_k (by decide)).trans ((hz_k (by decide)).trans ((hz_k (by decide)).trans ((hz_k (by decide)).trans ((hz_k (by decide)).trans ((hz_k (by decide)).trans ((hz_k (by decide)).trans (hz_k (by decide))))))))) ?_
    refine pM_237 C dX12_step_87 ?_
    refine j_aload_n C dX12_step_90 rfl rfl ?_
    refine gM_53 C dX12_step_91 ?_
    refine j_iload_n C dX12_step_94 rfl rfl ?_
    refine j_iconst (v := (-1)) C dX12_step_95 (by decide) ?_
    obtain ⟨p24, hP⟩ := hP
    refine j_iast (k := 15) C dX12_step_96 (by decide) rfl p24 ?_
    refine j_aload_n C dX12_step_97 rfl rfl ?_
    refine j_iload_n C dX12_step_98 rfl rfl ?_
    refine j_aload_n C dX12_step_99 rfl rfl ?_
    refine gM_43 C dX12_step_100 ?_
    refine j_iload_n C dX12_step_103 rfl rfl ?_
    obtain ⟨p31, hP⟩ := hP
    refine j_iald (k := 12) (v := (h 12 (a0.toNatClampNeg))) C dX12_step_104 (by decide) rfl p31 ((hz_k (by decide)).trans ((hz_k (by decide)).trans ((hz_k (by decide)).trans ((hz_k (by decide)).trans ((hz_k (by decide)).trans ((hz_k (by decide)).trans ((hz_k (by decide)).trans ((hz_k (by decide)).trans ((hz_k (by decide)).trans (hz_k (by decide))))))))))) ?_
    refine j_iconst (v := 1) C dX12_step_105 (by decide) ?_
    refine j_iadd C dX12_step_106 ?_
    obtain ⟨p35, hP⟩ := hP
    refine j_callVv C (MX12_goTo a0 ((h 12 (a0.toNatClampNeg)) + 1) (hs (hs (hs (hs (hs (hs (hs (hs (hs (hs h 0 27 (h 12 (a0.toNatClampNeg))) 0 28 (h 2 (((24 * a0) + (h 12 (a0.toNatClampNeg))).toNatClampNeg))) 0 29 (-2)) 0 30 (-2)) 0 31 0) 0 32 (-1)) 17 (h 15 (a0.toNatClampNeg)).toNatClampNeg a0) 0 31 1) 0 32 (h 15 (a0.toNatClampNeg))) 15 a0.toNatClampNeg (-1)) p35) dX12_step_107 (CKX12_goTo (by decide)) ⟨rfl, rfl⟩ lk_RX12_246 in_X12_goTo se_X12_goTo (by decide) rfl rfl rfl (Nat.le_of_ble_eq_true rfl) ?_
    intro S' h' hq
    obtain ⟨rfl, rfl⟩ := hq
    exact j_vl (tX12_step_110 C  a0 (FX12_goTo a0 ((h 12 (a0.toNatClampNeg)) + 1) (hs (hs (hs (hs (hs (hs (hs (hs (hs (hs h 0 27 (h 12 (a0.toNatClampNeg))) 0 28 (h 2 (((24 * a0) + (h 12 (a0.toNatClampNeg))).toNatClampNeg))) 0 29 (-2)) 0 30 (-2)) 0 31 0) 0 32 (-1)) 17 (h 15 (a0.toNatClampNeg)).toNatClampNeg a0) 0 31 1) 0 32 (h 15 (a0.toNatClampNeg))) 15 a0.toNatClampNeg (-1))) hP hR) ⟨rfl, rfl, trivial⟩
theorem MX12_step {l0 : Launch} {Y : fj_Y} {ad : Nat → Nat} (a0 : Int32) (h : ph_H) (hP : PX12_step a0 h) : MV l0 yX12_step cX12_step 3 ({ frames := 3, cells := 0, slots := 0, locals := 78 } : Room) Y ad 50 SM h [.ref (ad 0), .int a0] (fun S' h' => S' = SM ∧ h' = FX12_step a0 h) := met_v (by decide) (Nat.le_of_ble_eq_true rfl) (fun X C K => j_vl (tX12_step C a0 h hP (fun pc lv hd => K _ _ ⟨rfl, rfl⟩ pc lv hd)) ⟨rfl, rfl, trivial⟩)

-- X12_free
def FX12_free_12  : Nat → Int32 → ph_H → Int32
  | 0, _, _ => 0
  | q + 1, x2, h => if 4 ≤ x2 then ((-1)) else (if (FX12_canGo x2 h) = 0 then (FX12_free_12  q (x2 + 1) h) else (x2))
def PX12_free_12  : Nat → Int32 → ph_H → Prop
  | 0, _, _ => False
  | q + 1, x2, h => (4 ≤ x2 → (True)) ∧ (¬ 4 ≤ x2 → ((PX12_canGo x2 h) ∧ (((FX12_canGo x2 h) = 0 → (PX12_free_12  q (x2 + 1) h)) ∧ (¬ (FX12_canGo x2 h) = 0 → (True)))))
set_option maxRecDepth 100000 in
set_option maxHeartbeats 4000000 in
theorem tX12_free_12 {X : fj_X} {Y : fj_Y} {l0 : Launch} {ad : Nat → Nat} (C : FC X Y l0 cX12_free 3 RX12 ({ frames := 3, cells := 0, slots := 0, locals := 67 } : Room) 0 0 (some .int)) (h : ph_H) : ∀ (q : Nat) (x2 : Int32), PX12_free_12  q x2 h → RETp X Y ad 50 SM h cX12_free (FX12_free_12  q x2 h) → FJ X Y ad 50 SM h 12 [(0, .ref (ad 0)), (2, .int x2)] [] := by
  intro q
  induction q with
  | zero =>
    intro x2 hP hR
    exact absurd hP id
  | succ q ih =>
    intro x2 hP hR
    unfold PX12_free_12 at hP
    unfold FX12_free_12 at hR
    refine j_iload_n C dX12_free_12 rfl rfl ?_
    refine j_iconst (v := 4) C dX12_free_13 (by decide) ?_
    refine j_icmp_ge (tgt := 33) C dX12_free_14 (by decide) (fun c0 => ?_) (fun c0 => ?_)
    · have hP := hP.1 c0
      rw [if_pos c0] at hR
      refine j_iconst (v := (-1)) C dX12_free_33 (by decide) ?_
      exact hR _ _ dX12_free_34
    · have hP := hP.2 c0
      rw [if_neg c0] at hR
      refine j_aload_n C dX12_free_17 rfl rfl ?_
      refine j_iload_n C dX12_free_18 rfl rfl ?_
      obtain ⟨p2, hP⟩ := hP
      refine j_callV C (MX12_canGo x2 h p2) dX12_free_19 (CKX12_canGo (by decide)) ⟨rfl, rfl⟩ lk_RX12_215 in_X12_canGo se_X12_canGo (by decide) rfl rfl rfl (Nat.le_of_ble_eq_true rfl) ?_
      intro r S' h' hq
      obtain ⟨rfl, hh, rfl, hb4⟩ := hq
      rw [hh]
      refine j_if_eq (tgt := 27) C dX12_free_22 (by decide) (fun c1 => ?_) (fun c1 => ?_)
      · have hP := hP.1 c1
        rw [if_pos c1] at hR
        refine j_iinc (v := (x2 + 1)) C dX12_free_27 rfl rfl (by decide) rfl ?_
        refine j_goto (tgt := 12) C dX12_free_30 (by decide) ?_
        exact j_vl (ih (x2 + 1) hP hR) ⟨rfl, rfl, trivial⟩
      · have hP := hP.2 c1
        rw [if_neg c1] at hR
        refine j_iload_n C dX12_free_25 rfl rfl ?_
        exact hR _ _ dX12_free_26
def FX12_free (a0 : Int32) (h : ph_H) : Int32 := if (FX12_canGo a0 h) = 0 then (FX12_free_12 2000 0 h) else (a0)
def PX12_free (a0 : Int32) (h : ph_H) : Prop := (PX12_canGo a0 h) ∧ (((FX12_canGo a0 h) = 0 → (PX12_free_12 2000 0 h)) ∧ (¬ (FX12_canGo a0 h) = 0 → (True)))
set_option maxRecDepth 100000 in
set_option maxHeartbeats 4000000 in
theorem tX12_free {X : fj_X} {Y : fj_Y} {l0 : Launch} {ad : Nat → Nat} (C : FC X Y l0 cX12_free 3 RX12 ({ frames := 3, cells := 0, slots := 0, locals := 67 } : Room) 0 0 (some .int)) (a0 : Int32) (h : ph_H) (hP : PX12_free a0 h) (hR : RETp X Y ad 50 SM h cX12_free (FX12_free a0 h)) : FJ X Y ad 50 SM h 0 [(0, .ref (ad 0)), (1, .int a0)] [] := by
  unfold PX12_free at hP
  unfold FX12_free at hR
  refine j_aload_n C dX12_free_0 rfl rfl ?_
  refine j_iload_n C dX12_free_1 rfl rfl ?_
  obtain ⟨p2, hP⟩ := hP
  refine j_callV C (MX12_canGo a0 h p2) dX12_free_2 (CKX12_canGo (by decide)) ⟨rfl, rfl⟩ lk_RX12_215 in_X12_canGo se_X12_canGo (by decide) rfl rfl rfl (Nat.le_of_ble_eq_true rfl) ?_
  intro r S' h' hq
  obtain ⟨rfl, hh, rfl, hb4⟩ := hq
  rw [hh]
  refine j_if_eq (tgt := 10) C dX12_free_5 (by decide) (fun c0 => ?_) (fun c0 => ?_)
  · have hP := hP.1 c0
    rw [if_pos c0] at hR
    refine j_iconst (v := 0) C dX12_free_10 (by decide) ?_
    refine j_istore_n C dX12_free_11 rfl (by decide) rfl ?_
    exact j_vl (tX12_free_12 C h 2000 0 hP hR) ⟨rfl, rfl, trivial⟩
  · have hP := hP.2 c0
    rw [if_neg c0] at hR
    refine j_iload_n C dX12_free_8 rfl rfl ?_
    exact hR _ _ dX12_free_9
theorem MX12_free {l0 : Launch} {Y : fj_Y} {ad : Nat → Nat} (a0 : Int32) (h : ph_H) (hP : PX12_free a0 h) : MI l0 yX12_free cX12_free 3 (some .int) ({ frames := 3, cells := 0, slots := 0, locals := 67 } : Room) Y ad 50 SM h [.ref (ad 0), .int a0] (fun r S' h' => S' = SM ∧ h' = h ∧ r = FX12_free a0 h) := met_i (by decide) (Nat.le_of_ble_eq_true rfl) (fun _ _ _ _ => rfl) (fun X C K => j_vl (tX12_free C a0 h hP (fun pc lv hd => K _ _ _ ⟨rfl, rfl, rfl⟩ pc lv hd)) ⟨rfl, rfl, trivial⟩)

-- X12_keep
def FX12_keep_171  : Nat → Int32 → Int32 → ph_H → ph_H
  | 0, _, _, h => h
  | q + 1, x1, x2, h => if (16 * (h 0 18)) ≤ x2 then (h) else (FX12_keep_171  q x1 (x2 + 1) (hs h 28 ((192 * x1) + x2).toNatClampNeg (h 19 (x2.toNatClampNeg))))
def PX12_keep_171  : Nat → Int32 → Int32 → ph_H → Prop
  | 0, _, _, _ => False
  | q + 1, x1, x2, h => ((16 * (h 0 18)) ≤ x2 → (True)) ∧ (¬ (16 * (h 0 18)) ≤ x2 → (vp_in x2 192 ∧ (vp_in ((192 * x1) + x2) 57792 ∧ (PX12_keep_171  q x1 (x2 + 1) (hs h 28 ((192 * x1) + x2).toNatClampNeg (h 19 (x2.toNatClampNeg)))))))
set_option maxRecDepth 100000 in
set_option maxHeartbeats 4000000 in
theorem tX12_keep_171 {X : fj_X} {Y : fj_Y} {l0 : Launch} {ad : Nat → Nat} (C : FC X Y l0 cX12_keep 3 RX12 ({ frames := 4, cells := 0, slots := 0, locals := 88 } : Room) 0 0 none) : ∀ (q : Nat) (x1 : Int32) (x2 : Int32) (h : ph_H), PX12_keep_171  q x1 x2 h → RETv X Y ad 50 SM cX12_keep (FX12_keep_171  q x1 x2 h) → FJ X Y ad 50 SM h 171 [(0, .ref (ad 0)), (1, .int x1), (2, .int x2)] [] := by
  intro q
  induction q with
  | zero =>
    intro x1 x2 h hP hR
    exact absurd hP id
  | succ q ih =>
    intro x1 x2 h hP hR
    unfold PX12_keep_171 at hP
    unfold FX12_keep_171 at hR
    refine j_iload_n C dX12_keep_171 rfl rfl ?_
    refine j_bipush (v := 16) C dX12_keep_172 (by decide) ?_
    refine j_aload_n C dX12_keep_174 rfl rfl ?_
    refine gM_185 (v := (h 0 18)) C dX12_keep_175 rfl ?_
    refine j_imul C dX12_keep_178 ?_
    refine j_icmp_ge (tgt := 206) C dX12_keep_179 (by decide) (fun c0 => ?_) (fun c0 => ?_)
    · have hP := hP.1 c0
      rw [if_pos c0] at hR
      exact hR _ _ dX12_keep_206
    · have hP := hP.2 c0
      rw [if_neg c0] at hR
      refine j_aload_n C dX12_keep_182 rfl rfl ?_
      refine gM_93 C dX12_keep_183 ?_
      refine j_sipush (v := 192) C dX12_keep_186 (by decide) ?_
      refine j_iload_n C dX12_keep_189 rfl rfl ?_
      refine j_imul C dX12_keep_190 ?_
      refine j_iload_n C dX12_keep_191 rfl rfl ?_
      refine j_iadd C dX12_keep_192 ?_
      refine j_aload_n C dX12_keep_193 rfl rfl ?_
      refine gM_65 C dX12_keep_194 ?_
      refine j_iload_n C dX12_keep_197 rfl rfl ?_
      obtain ⟨p10, hP⟩ := hP
      refine j_iald (k := 19) (v := (h 19 (x2.toNatClampNeg))) C dX12_keep_198 (by decide) rfl p10 rfl ?_
      obtain ⟨p12, hP⟩ := hP
      refine j_iast (k := 28) C dX12_keep_199 (by decide) rfl p12 ?_
      refine j_iinc (v := (x2 + 1)) C dX12_keep_200 rfl rfl (by decide) rfl ?_
      refine j_goto (tgt := 171) C dX12_keep_203 (by decide) ?_
      exact j_vl (ih x1 (x2 + 1) (hs h 28 ((192 * x1) + x2).toNatClampNeg (h 19 (x2.toNatClampNeg))) hP hR) ⟨rfl, rfl, rfl, trivial⟩
def FX12_keep_104  : Nat → Int32 → Int32 → ph_H → ph_H
  | 0, _, _, h => h
  | q + 1, x1, x2, h => if (h 0 18) ≤ x2 then (FX12_keep_171 2000 x1 0 h) else (FX12_keep_104  q x1 (x2 + 1) (hs (hs (hs h 25 ((12 * x1) + x2).toNatClampNeg (h 16 (x2.toNatClampNeg))) 26 ((12 * x1) + x2).toNatClampNeg (h 17 (x2.toNatClampNeg))) 27 ((12 * x1) + x2).toNatClampNeg (h 18 (x2.toNatClampNeg))))
def PX12_keep_104  : Nat → Int32 → Int32 → ph_H → Prop
  | 0, _, _, _ => False
  | q + 1, x1, x2, h => ((h 0 18) ≤ x2 → (PX12_keep_171 2000 x1 0 h)) ∧ (¬ (h 0 18) ≤ x2 → (vp_in x2 12 ∧ (vp_in ((12 * x1) + x2) 3612 ∧ (vp_in x2 12 ∧ (vp_in ((12 * x1) + x2) 3612 ∧ (vp_in x2 12 ∧ (vp_in ((12 * x1) + x2) 3612 ∧ (PX12_keep_104  q x1 (x2 + 1) (hs (hs (hs h 25 ((12 * x1) + x2).toNatClampNeg (h 16 (x2.toNatClampNeg))) 26 ((12 * x1) + x2).toNatClampNeg (h 17 (x2.toNatClampNeg))) 27 ((12 * x1) + x2).toNatClampNeg (h 18 (x2.toNatClampNeg)))))))))))
set_option maxRecDepth 100000 in
set_option maxHeartbeats 4000000 in
theorem tX12_keep_104 {X : fj_X} {Y : fj_Y} {l0 : Launch} {ad : Nat → Nat} (C : FC X Y l0 cX12_keep 3 RX12 ({ frames := 4, cells := 0, slots := 0, locals := 88 } : Room) 0 0 none) : ∀ (q : Nat) (x1 : Int32) (x2 : Int32) (h : ph_H), PX12_keep_104  q x1 x2 h → RETv X Y ad 50 SM cX12_keep (FX12_keep_104  q x1 x2 h) → FJ X Y ad 50 SM h 104 [(0, .ref (ad 0)), (1, .int x1), (2, .int x2)] [] := by
  intro q
  induction q with
  | zero =>
    intro x1 x2 h hP hR
    exact absurd hP id
  | succ q ih =>
    intro x1 x2 h hP hR
    unfold PX12_keep_104 at hP
    unfold FX12_keep_104 at hR
    refine j_iload_n C dX12_keep_104 rfl rfl ?_
    refine j_aload_n C dX12_keep_105 rfl rfl ?_
    refine gM_185 (v := (h 0 18)) C dX12_keep_106 rfl ?_
    refine j_icmp_ge (tgt := 169) C dX12_keep_109 (by decide) (fun c0 => ?_) (fun c0 => ?_)
    · have hP := hP.1 c0
      rw [if_pos c0] at hR
      refine j_iconst (v := 0) C dX12_keep_169 (by decide) ?_
      refine j_istore_n C dX12_keep_170 rfl (by decide) rfl ?_
      exact j_vl (tX12_keep_171 C 2000 x1 0 h hP hR) ⟨rfl, rfl, rfl, trivial⟩
    · have hP := hP.2 c0
      rw [if_neg c0] at hR
      refine j_aload_n C dX12_keep_112 rfl rfl ?_
      refine gM_83 C dX12_keep_113 ?_
      refine j_bipush (v := 12) C dX12_keep_116 (by decide) ?_
      refine j_iload_n C dX12_keep_118 rfl rfl ?_
      refine j_imul C dX12_keep_119 ?_
      refine j_iload_n C dX12_keep_120 rfl rfl ?_
      refine j_iadd C dX12_keep_121 ?_
      refine j_aload_n C dX12_keep_122 rfl rfl ?_
      refine gM_56 C dX12_keep_123 ?_
      refine j_iload_n C dX12_keep_126 rfl rfl ?_
      obtain ⟨p10, hP⟩ := hP
      refine j_iald (k := 16) (v := (h 16 (x2.toNatClampNeg))) C dX12_keep_127 (by decide) rfl p10 rfl ?_
      obtain ⟨p12, hP⟩ := hP
      refine j_iast (k := 25) C dX12_keep_128 (by decide) rfl p12 ?_
      refine j_aload_n C dX12_keep_129 rfl rfl ?_
      refine gM_86 C dX12_keep_130 ?_
      refine j_bipush (v := 12) C dX12_keep_133 (by decide) ?_
      refine j_iload_n C dX12_keep_135 rfl rfl ?_
      refine j_imul C dX12_keep_136 ?_
      refine j_iload_n C dX12_keep_137 rfl rfl ?_
      refine j_iadd C dX12_keep_138 ?_
      refine j_aload_n C dX12_keep_139 rfl rfl ?_
      refine gM_59 C dX12_keep_140 ?_
      refine j_iload_n C dX12_keep_143 rfl rfl ?_
      obtain ⟨p24, hP⟩ := hP
      refine j_iald (k := 17) (v := (h 17 (x2.toNatClampNeg))) C dX12_keep_144 (by decide) rfl p24 (hz_k (by decide)) ?_
      obtain ⟨p26, hP⟩ := hP
      refine j_iast (k := 26) C dX12_keep_145 (by decide) rfl p26 ?_
      refine j_aload_n C dX12_keep_146 rfl rfl ?_
      refine gM_89 C dX12_keep_147 ?_
      refine j_bipush (v := 12) C dX12_keep_150 (by decide) ?_
      refine j_iload_n C dX12_keep_152 rfl rfl ?_
      refine j_imul C dX12_keep_153 ?_
      refine j_iload_n C dX12_keep_154 rfl rfl ?_
      refine j_iadd C dX12_keep_155 ?_
      refine j_aload_n C dX12_keep_156 rfl rfl ?_
      refine gM_62 C dX12_keep_157 ?_
      refine j_iload_n C dX12_keep_160 rfl rfl ?_
      obtain ⟨p38, hP⟩ := hP
      refine j_iald (k := 18) (v := (h 18 (x2.toNatClampNeg))) C dX12_keep_161 (by decide) rfl p38 ((hz_k (by decide)).trans (hz_k (by decide))) ?_
      obtain ⟨p40, hP⟩ := hP
      refine j_iast (k := 27) C dX12_keep_162 (by decide) rfl p40 ?_
      refine j_iinc (v := (x2 + 1)) C dX12_keep_163 rfl rfl (by decide) rfl ?_
      refine j_goto (tgt := 104) C dX12_keep_166 (by decide) ?_
      exact j_vl (ih x1 (x2 + 1) (hs (hs (hs h 25 ((12 * x1) + x2).toNatClampNeg (h 16 (x2.toNatClampNeg))) 26 ((12 * x1) + x2).toNatClampNeg (h 17 (x2.toNatClampNeg))) 27 ((12 * x1) + x2).toNatClampNeg (h 18 (x2.toNatClampNeg))) hP hR) ⟨rfl, rfl, rfl, trivial⟩
def FX12_keep_50  : Nat → Int32 → Int32 → ph_H → ph_H
  | 0, _, _, h => h
  | q + 1, x1, x2, h => if 4 ≤ x2 then (FX12_keep_104 2000 x1 0 (hs h 24 x1.toNatClampNeg (h 0 18))) else (FX12_keep_50  q x1 (x2 + 1) (hs (hs h 22 ((4 * x1) + x2).toNatClampNeg (h 12 (x2.toNatClampNeg))) 23 ((4 * x1) + x2).toNatClampNeg (FX12_state x2 (hs h 22 ((4 * x1) + x2).toNatClampNeg (h 12 (x2.toNatClampNeg))))))
def PX12_keep_50  : Nat → Int32 → Int32 → ph_H → Prop
  | 0, _, _, _ => False
  | q + 1, x1, x2, h => (4 ≤ x2 → (vp_in x1 301 ∧ (PX12_keep_104 2000 x1 0 (hs h 24 x1.toNatClampNeg (h 0 18))))) ∧ (¬ 4 ≤ x2 → (vp_in x2 4 ∧ (vp_in ((4 * x1) + x2) 1204 ∧ ((PX12_state x2 (hs h 22 ((4 * x1) + x2).toNatClampNeg (h 12 (x2.toNatClampNeg)))) ∧ (vp_in ((4 * x1) + x2) 1204 ∧ (PX12_keep_50  q x1 (x2 + 1) (hs (hs h 22 ((4 * x1) + x2).toNatClampNeg (h 12 (x2.toNatClampNeg))) 23 ((4 * x1) + x2).toNatClampNeg (FX12_state x2 (hs h 22 ((4 * x1) + x2).toNatClampNeg (h 12 (x2.toNatClampNeg)))))))))))
set_option maxRecDepth 100000 in
set_option maxHeartbeats 4000000 in
theorem tX12_keep_50 {X : fj_X} {Y : fj_Y} {l0 : Launch} {ad : Nat → Nat} (C : FC X Y l0 cX12_keep 3 RX12 ({ frames := 4, cells := 0, slots := 0, locals := 88 } : Room) 0 0 none) : ∀ (q : Nat) (x1 : Int32) (x2 : Int32) (h : ph_H), PX12_keep_50  q x1 x2 h → RETv X Y ad 50 SM cX12_keep (FX12_keep_50  q x1 x2 h) → FJ X Y ad 50 SM h 50 [(0, .ref (ad 0)), (1, .int x1), (2, .int x2)] [] := by
  intro q
  induction q with
  | zero =>
    intro x1 x2 h hP hR
    exact absurd hP id
  | succ q ih =>
    intro x1 x2 h hP hR
    unfold PX12_keep_50 at hP
    unfold FX12_keep_50 at hR
    refine j_iload_n C dX12_keep_50 rfl rfl ?_
    refine j_iconst (v := 4) C dX12_keep_51 (by decide) ?_
    refine j_icmp_ge (tgt := 92) C dX12_keep_52 (by decide) (fun c0 => ?_) (fun c0 => ?_)
    · have hP := hP.1 c0
      rw [if_pos c0] at hR
      refine j_aload_n C dX12_keep_92 rfl rfl ?_
      refine gM_80 C dX12_keep_93 ?_
      refine j_iload_n C dX12_keep_96 rfl rfl ?_
      refine j_aload_n C dX12_keep_97 rfl rfl ?_
      refine gM_185 (v := (h 0 18)) C dX12_keep_98 rfl ?_
      obtain ⟨p5, hP⟩ := hP
      refine j_iast (k := 24) C dX12_keep_101 (by decide) rfl p5 ?_
      refine j_iconst (v := 0) C dX12_keep_102 (by decide) ?_
      refine j_istore_n C dX12_keep_103 rfl (by decide) rfl ?_
      exact j_vl (tX12_keep_104 C 2000 x1 0 (hs h 24 x1.toNatClampNeg (h 0 18)) hP hR) ⟨rfl, rfl, rfl, trivial⟩
    · have hP := hP.2 c0
      rw [if_neg c0] at hR
      refine j_aload_n C dX12_keep_55 rfl rfl ?_
      refine gM_74 C dX12_keep_56 ?_
      refine j_iconst (v := 4) C dX12_keep_59 (by decide) ?_
      refine j_iload_n C dX12_keep_60 rfl rfl ?_
      refine j_imul C dX12_keep_61 ?_
      refine j_iload_n C dX12_keep_62 rfl rfl ?_
      refine j_iadd C dX12_keep_63 ?_
      refine j_aload_n C dX12_keep_64 rfl rfl ?_
      refine gM_43 C dX12_keep_65 ?_
      refine j_iload_n C dX12_keep_68 rfl rfl ?_
      obtain ⟨p10, hP⟩ := hP
      refine j_iald (k := 12) (v := (h 12 (x2.toNatClampNeg))) C dX12_keep_69 (by decide) rfl p10 rfl ?_
      obtain ⟨p12, hP⟩ := hP
      refine j_iast (k := 22) C dX12_keep_70 (by decide) rfl p12 ?_
      refine j_aload_n C dX12_keep_71 rfl rfl ?_
      refine gM_77 C dX12_keep_72 ?_
      refine j_iconst (v := 4) C dX12_keep_75 (by decide) ?_
      refine j_iload_n C dX12_keep_76 rfl rfl ?_
      refine j_imul C dX12_keep_77 ?_
      refine j_iload_n C dX12_keep_78 rfl rfl ?_
      refine j_iadd C dX12_keep_79 ?_
      refine j_aload_n C dX12_keep_80 rfl rfl ?_
      refine j_iload_n C dX12_keep_81 rfl rfl ?_
      obtain ⟨p23, hP⟩ := hP
      refine j_callV C (MX12_state x2 (hs h 22 ((4 * x1) + x2).toNatClampNeg (h 12 (x2.toNatClampNeg))) p23) dX12_keep_82 (CKX12_state (by decide)) ⟨rfl, rfl⟩ lk_RX12_268 in_X12_state se_X12_state (by decide) rfl rfl rfl (Nat.le_of_ble_eq_true rfl) ?_
      intro r S' h' hq
      obtain ⟨rfl, hh, rfl⟩ := hq
      rw [hh]
      obtain ⟨p28, hP⟩ := hP
      refine j_iast (k := 23) C dX12_keep_85 (by decide) rfl p28 ?_
      refine j_iinc (v := (x2 + 1)) C dX12_keep_86 rfl rfl (by decide) rfl ?_
      refine j_goto (tgt := 50) C dX12_keep_89 (by decide) ?_
      exact j_vl (ih x1 (x2 + 1) (hs (hs h 22 ((4 * x1) + x2).toNatClampNeg (h 12 (x2.toNatClampNeg))) 23 ((4 * x1) + x2).toNatClampNeg (FX12_state x2 (hs h 22 ((4 * x1) + x2).toNatClampNeg (h 12 (x2.toNatClampNeg))))) hP hR) ⟨rfl, rfl, rfl, trivial⟩
def FX12_keep_2  : Nat → Int32 → Int32 → ph_H → ph_H
  | 0, _, _, h => h
  | q + 1, x1, x2, h => if 28 ≤ x2 then (FX12_keep_50 2000 x1 0 h) else (FX12_keep_2  q x1 (x2 + 1) (hs (hs h 20 ((28 * x1) + x2).toNatClampNeg (h 10 (x2.toNatClampNeg))) 21 ((28 * x1) + x2).toNatClampNeg (h 11 (x2.toNatClampNeg))))
def PX12_keep_2  : Nat → Int32 → Int32 → ph_H → Prop
  | 0, _, _, _ => False
  | q + 1, x1, x2, h => (28 ≤ x2 → (PX12_keep_50 2000 x1 0 h)) ∧ (¬ 28 ≤ x2 → (vp_in x2 28 ∧ (vp_in ((28 * x1) + x2) 8428 ∧ (vp_in x2 28 ∧ (vp_in ((28 * x1) + x2) 8428 ∧ (PX12_keep_2  q x1 (x2 + 1) (hs (hs h 20 ((28 * x1) + x2).toNatClampNeg (h 10 (x2.toNatClampNeg))) 21 ((28 * x1) + x2).toNatClampNeg (h 11 (x2.toNatClampNeg)))))))))
set_option maxRecDepth 100000 in
set_option maxHeartbeats 4000000 in
theorem tX12_keep_2 {X : fj_X} {Y : fj_Y} {l0 : Launch} {ad : Nat → Nat} (C : FC X Y l0 cX12_keep 3 RX12 ({ frames := 4, cells := 0, slots := 0, locals := 88 } : Room) 0 0 none) : ∀ (q : Nat) (x1 : Int32) (x2 : Int32) (h : ph_H), PX12_keep_2  q x1 x2 h → RETv X Y ad 50 SM cX12_keep (FX12_keep_2  q x1 x2 h) → FJ X Y ad 50 SM h 2 [(0, .ref (ad 0)), (1, .int x1), (2, .int x2)] [] := by
  intro q
  induction q with
  | zero =>
    intro x1 x2 h hP hR
    exact absurd hP id
  | succ q ih =>
    intro x1 x2 h hP hR
    unfold PX12_keep_2 at hP
    unfold FX12_keep_2 at hR
    refine j_iload_n C dX12_keep_2 rfl rfl ?_
    refine j_bipush (v := 28) C dX12_keep_3 (by decide) ?_
    refine j_icmp_ge (tgt := 48) C dX12_keep_5 (by decide) (fun c0 => ?_) (fun c0 => ?_)
    · have hP := hP.1 c0
      rw [if_pos c0] at hR
      refine j_iconst (v := 0) C dX12_keep_48 (by decide) ?_
      refine j_istore_n C dX12_keep_49 rfl (by decide) rfl ?_
      exact j_vl (tX12_keep_50 C 2000 x1 0 h hP hR) ⟨rfl, rfl, rfl, trivial⟩
    · have hP := hP.2 c0
      rw [if_neg c0] at hR
      refine j_aload_n C dX12_keep_8 rfl rfl ?_
      refine gM_68 C dX12_keep_9 ?_
      refine j_bipush (v := 28) C dX12_keep_12 (by decide) ?_
      refine j_iload_n C dX12_keep_14 rfl rfl ?_
      refine j_imul C dX12_keep_15 ?_
      refine j_iload_n C dX12_keep_16 rfl rfl ?_
      refine j_iadd C dX12_keep_17 ?_
      refine j_aload_n C dX12_keep_18 rfl rfl ?_
      refine gM_37 C dX12_keep_19 ?_
      refine j_iload_n C dX12_keep_22 rfl rfl ?_
      obtain ⟨p10, hP⟩ := hP
      refine j_iald (k := 10) (v := (h 10 (x2.toNatClampNeg))) C dX12_keep_23 (by decide) rfl p10 rfl ?_
      obtain ⟨p12, hP⟩ := hP
      refine j_iast (k := 20) C dX12_keep_24 (by decide) rfl p12 ?_
      refine j_aload_n C dX12_keep_25 rfl rfl ?_
      refine gM_71 C dX12_keep_26 ?_
      refine j_bipush (v := 28) C dX12_keep_29 (by decide) ?_
      refine j_iload_n C dX12_keep_31 rfl rfl ?_
      refine j_imul C dX12_keep_32 ?_
      refine j_iload_n C dX12_keep_33 rfl rfl ?_
      refine j_iadd C dX12_keep_34 ?_
      refine j_aload_n C dX12_keep_35 rfl rfl ?_
      refine gM_40 C dX12_keep_36 ?_
      refine j_iload_n C dX12_keep_39 rfl rfl ?_
      obtain ⟨p24, hP⟩ := hP
      refine j_iald (k := 11) (v := (h 11 (x2.toNatClampNeg))) C dX12_keep_40 (by decide) rfl p24 (hz_k (by decide)) ?_
      obtain ⟨p26, hP⟩ := hP
      refine j_iast (k := 21) C dX12_keep_41 (by decide) rfl p26 ?_
      refine j_iinc (v := (x2 + 1)) C dX12_keep_42 rfl rfl (by decide) rfl ?_
      refine j_goto (tgt := 2) C dX12_keep_45 (by decide) ?_
      exact j_vl (ih x1 (x2 + 1) (hs (hs h 20 ((28 * x1) + x2).toNatClampNeg (h 10 (x2.toNatClampNeg))) 21 ((28 * x1) + x2).toNatClampNeg (h 11 (x2.toNatClampNeg))) hP hR) ⟨rfl, rfl, rfl, trivial⟩
def FX12_keep (a0 : Int32) (h : ph_H) : ph_H := FX12_keep_2 2000 a0 0 h
def PX12_keep (a0 : Int32) (h : ph_H) : Prop := PX12_keep_2 2000 a0 0 h
set_option maxRecDepth 100000 in
set_option maxHeartbeats 4000000 in
theorem tX12_keep {X : fj_X} {Y : fj_Y} {l0 : Launch} {ad : Nat → Nat} (C : FC X Y l0 cX12_keep 3 RX12 ({ frames := 4, cells := 0, slots := 0, locals := 88 } : Room) 0 0 none) (a0 : Int32) (h : ph_H) (hP : PX12_keep a0 h) (hR : RETv X Y ad 50 SM cX12_keep (FX12_keep a0 h)) : FJ X Y ad 50 SM h 0 [(0, .ref (ad 0)), (1, .int a0)] [] := by
  unfold PX12_keep at hP
  unfold FX12_keep at hR
  refine j_iconst (v := 0) C dX12_keep_0 (by decide) ?_
  refine j_istore_n C dX12_keep_1 rfl (by decide) rfl ?_
  exact j_vl (tX12_keep_2 C 2000 a0 0 h hP hR) ⟨rfl, rfl, rfl, trivial⟩
theorem MX12_keep {l0 : Launch} {Y : fj_Y} {ad : Nat → Nat} (a0 : Int32) (h : ph_H) (hP : PX12_keep a0 h) : MV l0 yX12_keep cX12_keep 3 ({ frames := 4, cells := 0, slots := 0, locals := 88 } : Room) Y ad 50 SM h [.ref (ad 0), .int a0] (fun S' h' => S' = SM ∧ h' = FX12_keep a0 h) := met_v (by decide) (Nat.le_of_ble_eq_true rfl) (fun X C K => j_vl (tX12_keep C a0 h hP (fun pc lv hd => K _ _ ⟨rfl, rfl⟩ pc lv hd)) ⟨rfl, rfl, trivial⟩)

-- X12_stepKept
def FX12_stepKept_182  (s0 : Int32) (s1 : Int32) (h : ph_H) : ph_H := (FX12_keep (h 0 24) (hs (hs h 34 s1.toNatClampNeg s0) 35 (h 0 24).toNatClampNeg (h 0 32)))
def PX12_stepKept_182  (s0 : Int32) (s1 : Int32) (h : ph_H) : Prop := vp_in s1 301 ∧ (vp_in (h 0 24) 301 ∧ ((PX12_keep (h 0 24) (hs (hs h 34 s1.toNatClampNeg s0) 35 (h 0 24).toNatClampNeg (h 0 32))) ∧ (True)))
set_option maxRecDepth 100000 in
set_option maxHeartbeats 4000000 in
theorem tX12_stepKept_182 {X : fj_X} {Y : fj_Y} {l0 : Launch} {ad : Nat → Nat} (C : FC X Y l0 cX12_stepKept 4 RX12 ({ frames := 5, cells := 0, slots := 0, locals := 110 } : Room) 0 0 none) (s0 : Int32) (s1 : Int32) (h : ph_H) (hP : PX12_stepKept_182  s0 s1 h) (hR : RETv X Y ad 50 SM cX12_stepKept (FX12_stepKept_182  s0 s1 h)) : FJ X Y ad 50 SM h 182 [(0, .ref (ad 0))] [.int s0, .int s1, .ref (ad 34)] := by
  unfold PX12_stepKept_182 at hP
  unfold FX12_stepKept_182 at hR
  obtain ⟨p0, hP⟩ := hP
  refine j_iast (k := 34) C dX12_stepKept_182 (by decide) rfl p0 ?_
  refine j_aload_n C dX12_stepKept_183 rfl rfl ?_
  refine gM_114 C dX12_stepKept_184 ?_
  refine j_aload_n C dX12_stepKept_187 rfl rfl ?_
  refine gM_191 (v := (h 0 24)) C dX12_stepKept_188 (hz_k (by decide)) ?_
  refine j_aload_n C dX12_stepKept_191 rfl rfl ?_
  refine gM_237 (v := (h 0 32)) C dX12_stepKept_192 (hz_k (by decide)) ?_
  obtain ⟨p8, hP⟩ := hP
  refine j_iast (k := 35) C dX12_stepKept_195 (by decide) rfl p8 ?_
  refine j_aload_n C dX12_stepKept_196 rfl rfl ?_
  refine j_aload_n C dX12_stepKept_197 rfl rfl ?_
  refine gM_191 (v := (h 0 24)) C dX12_stepKept_198 ((hz_k (by decide)).trans (hz_k (by decide))) ?_
  obtain ⟨p13, hP⟩ := hP
  refine j_callVv C (MX12_keep (h 0 24) (hs (hs h 34 s1.toNatClampNeg s0) 35 (h 0 24).toNatClampNeg (h 0 32)) p13) dX12_stepKept_201 (CKX12_keep (by decide)) ⟨rfl, rfl⟩ lk_RX12_279 in_X12_keep se_X12_keep (by decide) rfl rfl rfl (Nat.le_of_ble_eq_true rfl) ?_
  intro S' h' hq
  obtain ⟨rfl, rfl⟩ := hq
  exact hR _ _ dX12_stepKept_204
def FX12_stepKept_158  (s0 : Int32) (s1 : Int32) (h : ph_H) : ph_H := if (h 0 25) ≤ 0 then (FX12_stepKept_182  (h 0 31) (h 0 24) (hs h 33 s1.toNatClampNeg s0)) else (FX12_stepKept_182  0 (h 0 24) (hs h 33 s1.toNatClampNeg s0))
def PX12_stepKept_158  (s0 : Int32) (s1 : Int32) (h : ph_H) : Prop := vp_in s1 301 ∧ (((h 0 25) ≤ 0 → (PX12_stepKept_182  (h 0 31) (h 0 24) (hs h 33 s1.toNatClampNeg s0))) ∧ (¬ (h 0 25) ≤ 0 → (PX12_stepKept_182  0 (h 0 24) (hs h 33 s1.toNatClampNeg s0))))
set_option maxRecDepth 100000 in
set_option maxHeartbeats 4000000 in
theorem tX12_stepKept_158 {X : fj_X} {Y : fj_Y} {l0 : Launch} {ad : Nat → Nat} (C : FC X Y l0 cX12_stepKept 4 RX12 ({ frames := 5, cells := 0, slots := 0, locals := 110 } : Room) 0 0 none) (s0 : Int32) (s1 : Int32) (h : ph_H) (hP : PX12_stepKept_158  s0 s1 h) (hR : RETv X Y ad 50 SM cX12_stepKept (FX12_stepKept_158  s0 s1 h)) : FJ X Y ad 50 SM h 158 [(0, .ref (ad 0))] [.int s0, .int s1, .ref (ad 33)] := by
  unfold PX12_stepKept_158 at hP
  unfold FX12_stepKept_158 at hR
  obtain ⟨p0, hP⟩ := hP
  refine j_iast (k := 33) C dX12_stepKept_158 (by decide) rfl p0 ?_
  refine j_aload_n C dX12_stepKept_159 rfl rfl ?_
  refine gM_111 C dX12_stepKept_160 ?_
  refine j_aload_n C dX12_stepKept_163 rfl rfl ?_
  refine gM_191 (v := (h 0 24)) C dX12_stepKept_164 (hz_k (by decide)) ?_
  refine j_aload_n C dX12_stepKept_167 rfl rfl ?_
  refine gM_194 (v := (h 0 25)) C dX12_stepKept_168 (hz_k (by decide)) ?_
  refine j_if_le (tgt := 178) C dX12_stepKept_171 (by decide) (fun c0 => ?_) (fun c0 => ?_)
  · have hP := hP.1 c0
    rw [if_pos c0] at hR
    refine j_aload_n C dX12_stepKept_178 rfl rfl ?_
    refine gM_234 (v := (h 0 31)) C dX12_stepKept_179 (hz_k (by decide)) ?_
    exact j_vl (tX12_stepKept_182 C  (h 0 31) (h 0 24) (hs h 33 s1.toNatClampNeg s0) hP hR) ⟨rfl, trivial⟩
  · have hP := hP.2 c0
    rw [if_neg c0] at hR
    refine j_iconst (v := 0) C dX12_stepKept_174 (by decide) ?_
    refine j_goto (tgt := 182) C dX12_stepKept_175 (by decide) ?_
    exact j_vl (tX12_stepKept_182 C  0 (h 0 24) (hs h 33 s1.toNatClampNeg s0) hP hR) ⟨rfl, trivial⟩
def FX12_stepKept_133  (s0 : Int32) (s1 : Int32) (h : ph_H) : ph_H := if (h 0 25) ≤ 0 then (FX12_stepKept_158  (h 0 30) (h 0 24) (hs h 32 s1.toNatClampNeg s0)) else (FX12_stepKept_158  (-2) (h 0 24) (hs h 32 s1.toNatClampNeg s0))
def PX12_stepKept_133  (s0 : Int32) (s1 : Int32) (h : ph_H) : Prop := vp_in s1 301 ∧ (((h 0 25) ≤ 0 → (PX12_stepKept_158  (h 0 30) (h 0 24) (hs h 32 s1.toNatClampNeg s0))) ∧ (¬ (h 0 25) ≤ 0 → (PX12_stepKept_158  (-2) (h 0 24) (hs h 32 s1.toNatClampNeg s0))))
set_option maxRecDepth 100000 in
set_option maxHeartbeats 4000000 in
theorem tX12_stepKept_133 {X : fj_X} {Y : fj_Y} {l0 : Launch} {ad : Nat → Nat} (C : FC X Y l0 cX12_stepKept 4 RX12 ({ frames := 5, cells := 0, slots := 0, locals := 110 } : Room) 0 0 none) (s0 : Int32) (s1 : Int32) (h : ph_H) (hP : PX12_stepKept_133  s0 s1 h) (hR : RETv X Y ad 50 SM cX12_stepKept (FX12_stepKept_133  s0 s1 h)) : FJ X Y ad 50 SM h 133 [(0, .ref (ad 0))] [.int s0, .int s1, .ref (ad 32)] := by
  unfold PX12_stepKept_133 at hP
  unfold FX12_stepKept_133 at hR
  obtain ⟨p0, hP⟩ := hP
  refine j_iast (k := 32) C dX12_stepKept_133 (by decide) rfl p0 ?_
  refine j_aload_n C dX12_stepKept_134 rfl rfl ?_
  refine gM_108 C dX12_stepKept_135 ?_
  refine j_aload_n C dX12_stepKept_138 rfl rfl ?_
  refine gM_191 (v := (h 0 24)) C dX12_stepKept_139 (hz_k (by decide)) ?_
  refine j_aload_n C dX12_stepKept_142 rfl rfl ?_
  refine gM_194 (v := (h 0 25)) C dX12_stepKept_143 (hz_k (by decide)) ?_
  refine j_if_le (tgt := 154) C dX12_stepKept_146 (by decide) (fun c0 => ?_) (fun c0 => ?_)
  · have hP := hP.1 c0
    rw [if_pos c0] at hR
    refine j_aload_n C dX12_stepKept_154 rfl rfl ?_
    refine gM_231 (v := (h 0 30)) C dX12_stepKept_155 (hz_k (by decide)) ?_
    exact j_vl (tX12_stepKept_158 C  (h 0 30) (h 0 24) (hs h 32 s1.toNatClampNeg s0) hP hR) ⟨rfl, trivial⟩
  · have hP := hP.2 c0
    rw [if_neg c0] at hR
    refine j_bipush (v := (-2)) C dX12_stepKept_149 (by decide) ?_
    refine j_goto (tgt := 158) C dX12_stepKept_151 (by decide) ?_
    exact j_vl (tX12_stepKept_158 C  (-2) (h 0 24) (hs h 32 s1.toNatClampNeg s0) hP hR) ⟨rfl, trivial⟩
def FX12_stepKept_73  (x1 : Int32) (h : ph_H) : ph_H := if (h 0 25) ≤ 0 then (FX12_stepKept_133  (h 0 29) (h 0 24) (hs (hs (hs h 29 (h 0 24).toNatClampNeg x1) 30 (h 0 24).toNatClampNeg (h 0 27)) 31 (h 0 24).toNatClampNeg (h 0 28))) else (FX12_stepKept_133  (-2) (h 0 24) (hs (hs (hs h 29 (h 0 24).toNatClampNeg x1) 30 (h 0 24).toNatClampNeg (h 0 27)) 31 (h 0 24).toNatClampNeg (h 0 28)))
def PX12_stepKept_73  (x1 : Int32) (h : ph_H) : Prop := vp_in (h 0 24) 301 ∧ (vp_in (h 0 24) 301 ∧ (vp_in (h 0 24) 301 ∧ (((h 0 25) ≤ 0 → (PX12_stepKept_133  (h 0 29) (h 0 24) (hs (hs (hs h 29 (h 0 24).toNatClampNeg x1) 30 (h 0 24).toNatClampNeg (h 0 27)) 31 (h 0 24).toNatClampNeg (h 0 28)))) ∧ (¬ (h 0 25) ≤ 0 → (PX12_stepKept_133  (-2) (h 0 24) (hs (hs (hs h 29 (h 0 24).toNatClampNeg x1) 30 (h 0 24).toNatClampNeg (h 0 27)) 31 (h 0 24).toNatClampNeg (h 0 28)))))))
set_option maxRecDepth 100000 in
set_option maxHeartbeats 4000000 in
theorem tX12_stepKept_73 {X : fj_X} {Y : fj_Y} {l0 : Launch} {ad : Nat → Nat} (C : FC X Y l0 cX12_stepKept 4 RX12 ({ frames := 5, cells := 0, slots := 0, locals := 110 } : Room) 0 0 none) (x1 : Int32) (h : ph_H) (hP : PX12_stepKept_73  x1 h) (hR : RETv X Y ad 50 SM cX12_stepKept (FX12_stepKept_73  x1 h)) : FJ X Y ad 50 SM h 73 [(0, .ref (ad 0)), (1, .int x1)] [] := by
  unfold PX12_stepKept_73 at hP
  unfold FX12_stepKept_73 at hR
  refine j_aload_n C dX12_stepKept_73 rfl rfl ?_
  refine gM_96 C dX12_stepKept_74 ?_
  refine j_aload_n C dX12_stepKept_77 rfl rfl ?_
  refine gM_191 (v := (h 0 24)) C dX12_stepKept_78 rfl ?_
  refine j_iload_n C dX12_stepKept_81 rfl rfl ?_
  obtain ⟨p5, hP⟩ := hP
  refine j_iast (k := 29) C dX12_stepKept_82 (by decide) rfl p5 ?_
  refine j_aload_n C dX12_stepKept_83 rfl rfl ?_
  refine gM_99 C dX12_stepKept_84 ?_
  refine j_aload_n C dX12_stepKept_87 rfl rfl ?_
  refine gM_191 (v := (h 0 24)) C dX12_stepKept_88 (hz_k (by decide)) ?_
  refine j_aload_n C dX12_stepKept_91 rfl rfl ?_
  refine gM_240 (v := (h 0 27)) C dX12_stepKept_92 (hz_k (by decide)) ?_
  obtain ⟨p13, hP⟩ := hP
  refine j_iast (k := 30) C dX12_stepKept_95 (by decide) rfl p13 ?_
  refine j_aload_n C dX12_stepKept_96 rfl rfl ?_
  refine gM_102 C dX12_stepKept_97 ?_
  refine j_aload_n C dX12_stepKept_100 rfl rfl ?_
  refine gM_191 (v := (h 0 24)) C dX12_stepKept_101 ((hz_k (by decide)).trans (hz_k (by decide))) ?_
  refine j_aload_n C dX12_stepKept_104 rfl rfl ?_
  refine gM_243 (v := (h 0 28)) C dX12_stepKept_105 ((hz_k (by decide)).trans (hz_k (by decide))) ?_
  obtain ⟨p21, hP⟩ := hP
  refine j_iast (k := 31) C dX12_stepKept_108 (by decide) rfl p21 ?_
  refine j_aload_n C dX12_stepKept_109 rfl rfl ?_
  refine gM_105 C dX12_stepKept_110 ?_
  refine j_aload_n C dX12_stepKept_113 rfl rfl ?_
  refine gM_191 (v := (h 0 24)) C dX12_stepKept_114 ((hz_k (by decide)).trans ((hz_k (by decide)).trans (hz_k (by decide)))) ?_
  refine j_aload_n C dX12_stepKept_117 rfl rfl ?_
  refine gM_194 (v := (h 0 25)) C dX12_stepKept_118 ((hz_k (by decide)).trans ((hz_k (by decide)).trans (hz_k (by decide)))) ?_
  refine j_if_le (tgt := 129) C dX12_stepKept_121 (by decide) (fun c0 => ?_) (fun c0 => ?_)
  · have hP := hP.1 c0
    rw [if_pos c0] at hR
    refine j_aload_n C dX12_stepKept_129 rfl rfl ?_
    refine gM_228 (v := (h 0 29)) C dX12_stepKept_130 ((hz_k (by decide)).trans ((hz_k (by decide)).trans (hz_k (by decide)))) ?_
    exact j_vl (tX12_stepKept_133 C  (h 0 29) (h 0 24) (hs (hs (hs h 29 (h 0 24).toNatClampNeg x1) 30 (h 0 24).toNatClampNeg (h 0 27)) 31 (h 0 24).toNatClampNeg (h 0 28)) hP hR) ⟨rfl, trivial⟩
  · have hP := hP.2 c0
    rw [if_neg c0] at hR
    refine j_bipush (v := (-2)) C dX12_stepKept_124 (by decide) ?_
    refine j_goto (tgt := 133) C dX12_stepKept_126 (by decide) ?_
    exact j_vl (tX12_stepKept_133 C  (-2) (h 0 24) (hs (hs (hs h 29 (h 0 24).toNatClampNeg x1) 30 (h 0 24).toNatClampNeg (h 0 27)) 31 (h 0 24).toNatClampNeg (h 0 28)) hP hR) ⟨rfl, trivial⟩
def FX12_stepKept_53  (x1 : Int32) (x3 : Int32) (h : ph_H) : ph_H := if (h 0 23) ≤ x3 then (FX12_stepKept_73  x1 h) else (FX12_stepKept_73  x1 (hs h 36 x3.toNatClampNeg (h 7 (x3.toNatClampNeg))))
def PX12_stepKept_53  (x1 : Int32) (x3 : Int32) (h : ph_H) : Prop := ((h 0 23) ≤ x3 → (PX12_stepKept_73  x1 h)) ∧ (¬ (h 0 23) ≤ x3 → (vp_in x3 30 ∧ (vp_in x3 30 ∧ (PX12_stepKept_73  x1 (hs h 36 x3.toNatClampNeg (h 7 (x3.toNatClampNeg)))))))
set_option maxRecDepth 100000 in
set_option maxHeartbeats 4000000 in
theorem tX12_stepKept_53 {X : fj_X} {Y : fj_Y} {l0 : Launch} {ad : Nat → Nat} (C : FC X Y l0 cX12_stepKept 4 RX12 ({ frames := 5, cells := 0, slots := 0, locals := 110 } : Room) 0 0 none) (x1 : Int32) (x3 : Int32) (h : ph_H) (hP : PX12_stepKept_53  x1 x3 h) (hR : RETv X Y ad 50 SM cX12_stepKept (FX12_stepKept_53  x1 x3 h)) : FJ X Y ad 50 SM h 53 [(0, .ref (ad 0)), (1, .int x1), (3, .int x3)] [] := by
  unfold PX12_stepKept_53 at hP
  unfold FX12_stepKept_53 at hR
  refine j_aload_n C dX12_stepKept_53 rfl rfl ?_
  refine gM_188 (v := (h 0 23)) C dX12_stepKept_54 rfl ?_
  refine j_iload_n C dX12_stepKept_57 rfl rfl ?_
  refine j_icmp_le (tgt := 73) C dX12_stepKept_58 (by decide) (fun c0 => ?_) (fun c0 => ?_)
  · have hP := hP.1 c0
    rw [if_pos c0] at hR
    exact j_vl (tX12_stepKept_73 C  x1 h hP hR) ⟨rfl, rfl, trivial⟩
  · have hP := hP.2 c0
    rw [if_neg c0] at hR
    refine j_aload_n C dX12_stepKept_61 rfl rfl ?_
    refine gM_117 C dX12_stepKept_62 ?_
    refine j_iload_n C dX12_stepKept_65 rfl rfl ?_
    refine j_aload_n C dX12_stepKept_66 rfl rfl ?_
    refine gM_28 C dX12_stepKept_67 ?_
    refine j_iload_n C dX12_stepKept_70 rfl rfl ?_
    obtain ⟨p6, hP⟩ := hP
    refine j_iald (k := 7) (v := (h 7 (x3.toNatClampNeg))) C dX12_stepKept_71 (by decide) rfl p6 rfl ?_
    obtain ⟨p8, hP⟩ := hP
    refine j_iast (k := 36) C dX12_stepKept_72 (by decide) rfl p8 ?_
    exact j_vl (tX12_stepKept_73 C  x1 (hs h 36 x3.toNatClampNeg (h 7 (x3.toNatClampNeg))) hP hR) ⟨rfl, rfl, trivial⟩
def FX12_stepKept_48  (x1 : Int32) (x3 : Int32) (h : ph_H) : ph_H := FX12_stepKept_53  x1 x3 (FX12_step x1 h)
def PX12_stepKept_48  (x1 : Int32) (x3 : Int32) (h : ph_H) : Prop := (PX12_step x1 h) ∧ (PX12_stepKept_53  x1 x3 (FX12_step x1 h))
set_option maxRecDepth 100000 in
set_option maxHeartbeats 4000000 in
theorem tX12_stepKept_48 {X : fj_X} {Y : fj_Y} {l0 : Launch} {ad : Nat → Nat} (C : FC X Y l0 cX12_stepKept 4 RX12 ({ frames := 5, cells := 0, slots := 0, locals := 110 } : Room) 0 0 none) (x1 : Int32) (x3 : Int32) (h : ph_H) (hP : PX12_stepKept_48  x1 x3 h) (hR : RETv X Y ad 50 SM cX12_stepKept (FX12_stepKept_48  x1 x3 h)) : FJ X Y ad 50 SM h 48 [(0, .ref (ad 0)), (1, .int x1), (3, .int x3)] [] := by
  unfold PX12_stepKept_48 at hP
  unfold FX12_stepKept_48 at hR
  refine j_aload_n C dX12_stepKept_48 rfl rfl ?_
  refine j_iload_n C dX12_stepKept_49 rfl rfl ?_
  obtain ⟨p2, hP⟩ := hP
  refine j_callVv C (MX12_step x1 h p2) dX12_stepKept_50 (CKX12_step (by decide)) ⟨rfl, rfl⟩ lk_RX12_275 in_X12_step se_X12_step (by decide) rfl rfl rfl (Nat.le_of_ble_eq_true rfl) ?_
  intro S' h' hq
  obtain ⟨rfl, rfl⟩ := hq
  exact j_vl (tX12_stepKept_53 C  x1 x3 (FX12_step x1 h) hP hR) ⟨rfl, rfl, rfl, trivial⟩
def FX12_stepKept (a0 : Int32) (h : ph_H) : ph_H := if a0 = (h 0 26) then (FX12_stepKept_48  a0 (h 0 23) h) else (FX12_stepKept_48  a0 (h 0 23) (hs (hs (hs h 37 (h 0 60).toNatClampNeg (h 0 24)) 38 (h 0 60).toNatClampNeg a0) 0 60 ((h 0 60) + 1)))
def PX12_stepKept (a0 : Int32) (h : ph_H) : Prop := (a0 = (h 0 26) → (PX12_stepKept_48  a0 (h 0 23) h)) ∧ (¬ a0 = (h 0 26) → (vp_in (h 0 60) 301 ∧ (vp_in (h 0 60) 301 ∧ (PX12_stepKept_48  a0 (h 0 23) (hs (hs (hs h 37 (h 0 60).toNatClampNeg (h 0 24)) 38 (h 0 60).toNatClampNeg a0) 0 60 ((h 0 60) + 1))))))
set_option maxRecDepth 100000 in
set_option maxHeartbeats 4000000 in
theorem tX12_stepKept {X : fj_X} {Y : fj_Y} {l0 : Launch} {ad : Nat → Nat} (C : FC X Y l0 cX12_stepKept 4 RX12 ({ frames := 5, cells := 0, slots := 0, locals := 110 } : Room) 0 0 none) (a0 : Int32) (h : ph_H) (hP : PX12_stepKept a0 h) (hR : RETv X Y ad 50 SM cX12_stepKept (FX12_stepKept a0 h)) : FJ X Y ad 50 SM h 0 [(0, .ref (ad 0)), (1, .int a0)] [] := by
  unfold PX12_stepKept at hP
  unfold FX12_stepKept at hR
  refine j_aload_n C dX12_stepKept_0 rfl rfl ?_
  refine gM_197 (v := (h 0 26)) C dX12_stepKept_1 rfl ?_
  refine j_istore_n C dX12_stepKept_4 rfl (by decide) rfl ?_
  refine j_aload_n C dX12_stepKept_5 rfl rfl ?_
  refine gM_188 (v := (h 0 23)) C dX12_stepKept_6 rfl ?_
  refine j_istore_n C dX12_stepKept_9 rfl (by decide) rfl ?_
  refine j_iload_n C dX12_stepKept_10 rfl rfl ?_
  refine j_iload_n C dX12_stepKept_11 rfl rfl ?_
  refine j_icmp_eq (tgt := 48) C dX12_stepKept_12 (by decide) (fun c0 => ?_) (fun c0 => ?_)
  · have hP := hP.1 c0
    rw [if_pos c0] at hR
    exact j_vl (tX12_stepKept_48 C  a0 (h 0 23) h hP hR) ⟨rfl, rfl, rfl, trivial⟩
  · have hP := hP.2 c0
    rw [if_neg c0] at hR
    refine j_aload_n C dX12_stepKept_15 rfl rfl ?_
    refine gM_120 C dX12_stepKept_16 ?_
    refine j_aload_n C dX12_stepKept_19 rfl rfl ?_
    refine gM_272 (v := (h 0 60)) C dX12_stepKept_20 rfl ?_
    refine j_aload_n C dX12_stepKept_23 rfl rfl ?_
    refine gM_191 (v := (h 0 24)) C dX12_stepKept_24 rfl ?_
    obtain ⟨p6, hP⟩ := hP
    refine j_iast (k := 37) C dX12_stepKept_27 (by decide) rfl p6 ?_
    refine j_aload_n C dX12_stepKept_28 rfl rfl ?_
    refine gM_123 C dX12_stepKept_29 ?_
    refine j_aload_n C dX12_stepKept_32 rfl rfl ?_
    refine gM_272 (v := (h 0 60)) C dX12_stepKept_33 (hz_k (by decide)) ?_
    refine j_iload_n C dX12_stepKept_36 rfl rfl ?_
    obtain ⟨p13, hP⟩ := hP
    refine j_iast (k := 38) C dX12_stepKept_37 (by decide) rfl p13 ?_
    refine j_aload_n C dX12_stepKept_38 rfl rfl ?_
    refine j_dup C dX12_stepKept_39 rfl ?_
    refine gM_272 (v := (h 0 60)) C dX12_stepKept_40 ((hz_k (by decide)).trans (hz_k (by decide))) ?_
    refine j_iconst (v := 1) C dX12_stepKept_43 (by decide) ?_
    refine j_iadd C dX12_stepKept_44 ?_
    refine pM_272 C dX12_stepKept_45 ?_
    exact j_vl (tX12_stepKept_48 C  a0 (h 0 23) (hs (hs (hs h 37 (h 0 60).toNatClampNeg (h 0 24)) 38 (h 0 60).toNatClampNeg a0) 0 60 ((h 0 60) + 1)) hP hR) ⟨rfl, rfl, rfl, trivial⟩
theorem MX12_stepKept {l0 : Launch} {Y : fj_Y} {ad : Nat → Nat} (a0 : Int32) (h : ph_H) (hP : PX12_stepKept a0 h) : MV l0 yX12_stepKept cX12_stepKept 4 ({ frames := 5, cells := 0, slots := 0, locals := 110 } : Room) Y ad 50 SM h [.ref (ad 0), .int a0] (fun S' h' => S' = SM ∧ h' = FX12_stepKept a0 h) := met_v (by decide) (Nat.le_of_ble_eq_true rfl) (fun X C K => j_vl (tX12_stepKept C a0 h hP (fun pc lv hd => K _ _ ⟨rfl, rfl⟩ pc lv hd)) ⟨rfl, rfl, trivial⟩)

-- X12_ending
def FX12_ending_57 (L23 : Int32 → Int32 → ph_H → Int32) (x2 : Int32) (s0 : Int32) (h : ph_H) : Int32 := L23 s0 (x2 + 1) h
def PX12_ending_57 (LP23 : Int32 → Int32 → ph_H → Prop) (x2 : Int32) (s0 : Int32) (h : ph_H) : Prop := LP23 s0 (x2 + 1) h
set_option maxRecDepth 100000 in
set_option maxHeartbeats 4000000 in
theorem tX12_ending_57 {X : fj_X} {Y : fj_Y} {l0 : Launch} {ad : Nat → Nat} (C : FC X Y l0 cX12_ending 3 RX12 ({ frames := 4, cells := 0, slots := 0, locals := 89 } : Room) 0 0 (some .int)) (h : ph_H) (L23 : Int32 → Int32 → ph_H → Int32) (LP23 : Int32 → Int32 → ph_H → Prop) (hL23 : ∀ (x1 : Int32) (x2 : Int32), LP23 x1 x2 h → RETp X Y ad 50 SM h cX12_ending (L23 x1 x2 h) → FJ X Y ad 50 SM h 23 [(0, .ref (ad 0)), (1, .int x1), (2, .int x2)] []) (x2 : Int32) (s0 : Int32) (hP : PX12_ending_57 LP23 x2 s0 h) (hR : RETp X Y ad 50 SM h cX12_ending (FX12_ending_57 L23 x2 s0 h)) : FJ X Y ad 50 SM h 57 [(0, .ref (ad 0)), (2, .int x2)] [.int s0] := by
  unfold PX12_ending_57 at hP
  unfold FX12_ending_57 at hR
  refine j_istore_n C dX12_ending_57 rfl (by decide) rfl ?_
  refine j_iinc (v := (x2 + 1)) C dX12_ending_58 rfl rfl (by decide) rfl ?_
  refine j_goto (tgt := 23) C dX12_ending_61 (by decide) ?_
  exact j_vl (hL23 s0 (x2 + 1) hP hR) ⟨rfl, rfl, rfl, trivial⟩
def FX12_ending_52 (L23 : Int32 → Int32 → ph_H → Int32) (x2 : Int32) (h : ph_H) : Int32 := FX12_ending_57 L23 x2 1 h
def PX12_ending_52 (LP23 : Int32 → Int32 → ph_H → Prop) (x2 : Int32) (h : ph_H) : Prop := PX12_ending_57 LP23 x2 1 h
set_option maxRecDepth 100000 in
set_option maxHeartbeats 4000000 in
theorem tX12_ending_52 {X : fj_X} {Y : fj_Y} {l0 : Launch} {ad : Nat → Nat} (C : FC X Y l0 cX12_ending 3 RX12 ({ frames := 4, cells := 0, slots := 0, locals := 89 } : Room) 0 0 (some .int)) (h : ph_H) (L23 : Int32 → Int32 → ph_H → Int32) (LP23 : Int32 → Int32 → ph_H → Prop) (hL23 : ∀ (x1 : Int32) (x2 : Int32), LP23 x1 x2 h → RETp X Y ad 50 SM h cX12_ending (L23 x1 x2 h) → FJ X Y ad 50 SM h 23 [(0, .ref (ad 0)), (1, .int x1), (2, .int x2)] []) (x2 : Int32) (hP : PX12_ending_52 LP23 x2 h) (hR : RETp X Y ad 50 SM h cX12_ending (FX12_ending_52 L23 x2 h)) : FJ X Y ad 50 SM h 52 [(0, .ref (ad 0)), (2, .int x2)] [] := by
  unfold PX12_ending_52 at hP
  unfold FX12_ending_52 at hR
  refine j_iconst (v := 1) C dX12_ending_52 (by decide) ?_
  refine j_goto (tgt := 57) C dX12_ending_53 (by decide) ?_
  exact j_vl (tX12_ending_57 C h L23 LP23 hL23 x2 1 hP hR) ⟨rfl, rfl, trivial⟩
def FX12_ending_56 (L23 : Int32 → Int32 → ph_H → Int32) (x2 : Int32) (h : ph_H) : Int32 := FX12_ending_57 L23 x2 0 h
def PX12_ending_56 (LP23 : Int32 → Int32 → ph_H → Prop) (x2 : Int32) (h : ph_H) : Prop := PX12_ending_57 LP23 x2 0 h
set_option maxRecDepth 100000 in
set_option maxHeartbeats 4000000 in
theorem tX12_ending_56 {X : fj_X} {Y : fj_Y} {l0 : Launch} {ad : Nat → Nat} (C : FC X Y l0 cX12_ending 3 RX12 ({ frames := 4, cells := 0, slots := 0, locals := 89 } : Room) 0 0 (some .int)) (h : ph_H) (L23 : Int32 → Int32 → ph_H → Int32) (LP23 : Int32 → Int32 → ph_H → Prop) (hL23 : ∀ (x1 : Int32) (x2 : Int32), LP23 x1 x2 h → RETp X Y ad 50 SM h cX12_ending (L23 x1 x2 h) → FJ X Y ad 50 SM h 23 [(0, .ref (ad 0)), (1, .int x1), (2, .int x2)] []) (x2 : Int32) (hP : PX12_ending_56 LP23 x2 h) (hR : RETp X Y ad 50 SM h cX12_ending (FX12_ending_56 L23 x2 h)) : FJ X Y ad 50 SM h 56 [(0, .ref (ad 0)), (2, .int x2)] [] := by
  unfold PX12_ending_56 at hP
  unfold FX12_ending_56 at hR
  refine j_iconst (v := 0) C dX12_ending_56 (by decide) ?_
  exact j_vl (tX12_ending_57 C h L23 LP23 hL23 x2 0 hP hR) ⟨rfl, rfl, trivial⟩
def FX12_ending_23  : Nat → Int32 → Int32 → ph_H → Int32
  | 0, _, _, _ => 0
  | q + 1, x1, x2, h => if 4 ≤ x2 then (if x1 = 0 then (1) else (0)) else (if x1 = 0 then (FX12_ending_56 (FX12_ending_23  q) x2 h) else (if (h 13 (x2.toNatClampNeg)) = 0 then (FX12_ending_52 (FX12_ending_23  q) x2 h) else (if (h 12 (x2.toNatClampNeg)) = 24 then (FX12_ending_52 (FX12_ending_23  q) x2 h) else (FX12_ending_56 (FX12_ending_23  q) x2 h))))
def PX12_ending_23  : Nat → Int32 → Int32 → ph_H → Prop
  | 0, _, _, _ => False
  | q + 1, x1, x2, h => (4 ≤ x2 → ((x1 = 0 → (True)) ∧ (¬ x1 = 0 → (True)))) ∧ (¬ 4 ≤ x2 → ((x1 = 0 → (PX12_ending_56 (PX12_ending_23  q) x2 h)) ∧ (¬ x1 = 0 → (vp_in x2 4 ∧ (((h 13 (x2.toNatClampNeg)) = 0 → (PX12_ending_52 (PX12_ending_23  q) x2 h)) ∧ (¬ (h 13 (x2.toNatClampNeg)) = 0 → (vp_in x2 4 ∧ (((h 12 (x2.toNatClampNeg)) = 24 → (PX12_ending_52 (PX12_ending_23  q) x2 h)) ∧ (¬ (h 12 (x2.toNatClampNeg)) = 24 → (PX12_ending_56 (PX12_ending_23  q) x2 h))))))))))
set_option maxRecDepth 100000 in
set_option maxHeartbeats 4000000 in
theorem tX12_ending_23 {X : fj_X} {Y : fj_Y} {l0 : Launch} {ad : Nat → Nat} (C : FC X Y l0 cX12_ending 3 RX12 ({ frames := 4, cells := 0, slots := 0, locals := 89 } : Room) 0 0 (some .int)) (h : ph_H) : ∀ (q : Nat) (x1 : Int32) (x2 : Int32), PX12_ending_23  q x1 x2 h → RETp X Y ad 50 SM h cX12_ending (FX12_ending_23  q x1 x2 h) → FJ X Y ad 50 SM h 23 [(0, .ref (ad 0)), (1, .int x1), (2, .int x2)] [] := by
  intro q
  induction q with
  | zero =>
    intro x1 x2 hP hR
    exact absurd hP id
  | succ q ih =>
    intro x1 x2 hP hR
    unfold PX12_ending_23 at hP
    unfold FX12_ending_23 at hR
    refine j_iload_n C dX12_ending_23 rfl rfl ?_
    refine j_iconst (v := 4) C dX12_ending_24 (by decide) ?_
    refine j_icmp_ge (tgt := 64) C dX12_ending_25 (by decide) (fun c0 => ?_) (fun c0 => ?_)
    · have hP := hP.1 c0
      rw [if_pos c0] at hR
      refine j_iload_n C dX12_ending_64 rfl rfl ?_
      refine j_if_eq (tgt := 72) C dX12_ending_65 (by decide) (fun c1 => ?_) (fun c1 => ?_)
      · have hP := hP.1 c1
        rw [if_pos c1] at hR
        refine j_iconst (v := 1) C dX12_ending_72 (by decide) ?_
        exact hR _ _ dX12_ending_73
      · have hP := hP.2 c1
        rw [if_neg c1] at hR
        refine j_iconst (v := 0) C dX12_ending_68 (by decide) ?_
        refine j_goto (tgt := 73) C dX12_ending_69 (by decide) ?_
        exact hR _ _ dX12_ending_73
    · have hP := hP.2 c0
      rw [if_neg c0] at hR
      refine j_iload_n C dX12_ending_28 rfl rfl ?_
      refine j_if_eq (tgt := 56) C dX12_ending_29 (by decide) (fun c1 => ?_) (fun c1 => ?_)
      · have hP := hP.1 c1
        rw [if_pos c1] at hR
        exact j_vl (tX12_ending_56 C h (FX12_ending_23  q) (PX12_ending_23  q) (ih) x2 hP hR) ⟨rfl, rfl, trivial⟩
      · have hP := hP.2 c1
        rw [if_neg c1] at hR
        refine j_aload_n C dX12_ending_32 rfl rfl ?_
        refine gM_46 C dX12_ending_33 ?_
        refine j_iload_n C dX12_ending_36 rfl rfl ?_
        obtain ⟨p3, hP⟩ := hP
        refine j_zald (k := 13) (v := (h 13 (x2.toNatClampNeg))) C dX12_ending_37 (by decide) rfl p3 rfl ?_
        refine j_if_eq (tgt := 52) C dX12_ending_38 (by decide) (fun c2 => ?_) (fun c2 => ?_)
        · have hP := hP.1 c2
          rw [if_pos c2] at hR
          exact j_vl (tX12_ending_52 C h (FX12_ending_23  q) (PX12_ending_23  q) (ih) x2 hP hR) ⟨rfl, rfl, trivial⟩
        · have hP := hP.2 c2
          rw [if_neg c2] at hR
          refine j_aload_n C dX12_ending_41 rfl rfl ?_
          refine gM_43 C dX12_ending_42 ?_
          refine j_iload_n C dX12_ending_45 rfl rfl ?_
          obtain ⟨p3, hP⟩ := hP
          refine j_iald (k := 12) (v := (h 12 (x2.toNatClampNeg))) C dX12_ending_46 (by decide) rfl p3 rfl ?_
          refine j_bipush (v := 24) C dX12_ending_47 (by decide) ?_
          refine j_icmp_ne (tgt := 56) C dX12_ending_49 (by decide) (fun c3 => ?_) (fun c3 => ?_)
          · have hP := hP.2 c3
            rw [if_neg c3] at hR
            exact j_vl (tX12_ending_56 C h (FX12_ending_23  q) (PX12_ending_23  q) (ih) x2 hP hR) ⟨rfl, rfl, trivial⟩
          · have hP := hP.1 c3
            rw [if_pos c3] at hR
            exact j_vl (tX12_ending_52 C h (FX12_ending_23  q) (PX12_ending_23  q) (ih) x2 hP hR) ⟨rfl, rfl, trivial⟩
def FX12_ending (h : ph_H) : Int32 := if (h 0 25) ≤ 0 then (if (FX12_free 0 h) < 0 then (FX12_ending_23 2000 1 0 h) else (3)) else (2)
def PX12_ending (h : ph_H) : Prop := ((h 0 25) ≤ 0 → ((PX12_free 0 h) ∧ (((FX12_free 0 h) < 0 → (PX12_ending_23 2000 1 0 h)) ∧ (¬ (FX12_free 0 h) < 0 → (True))))) ∧ (¬ (h 0 25) ≤ 0 → (True))
set_option maxRecDepth 100000 in
set_option maxHeartbeats 4000000 in
theorem tX12_ending {X : fj_X} {Y : fj_Y} {l0 : Launch} {ad : Nat → Nat} (C : FC X Y l0 cX12_ending 3 RX12 ({ frames := 4, cells := 0, slots := 0, locals := 89 } : Room) 0 0 (some .int)) (h : ph_H) (hP : PX12_ending h) (hR : RETp X Y ad 50 SM h cX12_ending (FX12_ending h)) : FJ X Y ad 50 SM h 0 [(0, .ref (ad 0))] [] := by
  unfold PX12_ending at hP
  unfold FX12_ending at hR
  refine j_aload_n C dX12_ending_0 rfl rfl ?_
  refine gM_194 (v := (h 0 25)) C dX12_ending_1 rfl ?_
  refine j_if_le (tgt := 9) C dX12_ending_4 (by decide) (fun c0 => ?_) (fun c0 => ?_)
  · have hP := hP.1 c0
    rw [if_pos c0] at hR
    refine j_aload_n C dX12_ending_9 rfl rfl ?_
    refine j_iconst (v := 0) C dX12_ending_10 (by decide) ?_
    obtain ⟨p2, hP⟩ := hP
    refine j_callV C (MX12_free 0 h p2) dX12_ending_11 (CKX12_free (by decide)) ⟨rfl, rfl⟩ lk_RX12_282 in_X12_free se_X12_free (by decide) rfl rfl rfl (Nat.le_of_ble_eq_true rfl) ?_
    intro r S' h' hq
    obtain ⟨rfl, hh, rfl⟩ := hq
    rw [hh]
    refine j_if_lt (tgt := 19) C dX12_ending_14 (by decide) (fun c1 => ?_) (fun c1 => ?_)
    · have hP := hP.1 c1
      rw [if_pos c1] at hR
      refine j_iconst (v := 1) C dX12_ending_19 (by decide) ?_
      refine j_istore_n C dX12_ending_20 rfl (by decide) rfl ?_
      refine j_iconst (v := 0) C dX12_ending_21 (by decide) ?_
      refine j_istore_n C dX12_ending_22 rfl (by decide) rfl ?_
      exact j_vl (tX12_ending_23 C h 2000 1 0 hP hR) ⟨rfl, rfl, rfl, trivial⟩
    · have hP := hP.2 c1
      rw [if_neg c1] at hR
      refine j_iconst (v := 3) C dX12_ending_17 (by decide) ?_
      exact hR _ _ dX12_ending_18
  · have hP := hP.2 c0
    rw [if_neg c0] at hR
    refine j_iconst (v := 2) C dX12_ending_7 (by decide) ?_
    exact hR _ _ dX12_ending_8
theorem MX12_ending {l0 : Launch} {Y : fj_Y} {ad : Nat → Nat} (h : ph_H) (hP : PX12_ending h) : MI l0 yX12_ending cX12_ending 3 (some .int) ({ frames := 4, cells := 0, slots := 0, locals := 89 } : Room) Y ad 50 SM h [.ref (ad 0)] (fun r S' h' => S' = SM ∧ h' = h ∧ r = FX12_ending h) := met_i (by decide) (Nat.le_of_ble_eq_true rfl) (fun _ _ _ _ => rfl) (fun X C K => j_vl (tX12_ending C h hP (fun pc lv hd => K _ _ _ ⟨rfl, rfl, rfl⟩ pc lv hd)) ⟨rfl, trivial⟩)
end MG_08_m03
section MG_08_m04
-- X12_run
def FX12_run_91 (L31 : Int32 → ph_H → Int32 × ph_H) (L41 : Int32 → Int32 → ph_H → Int32 × ph_H) (x1 : Int32) (x2 : Int32) (h : ph_H) : Int32 × ph_H := L41 x1 (x2 + 1) h
def PX12_run_91 (LP31 : Int32 → ph_H → Prop) (LP41 : Int32 → Int32 → ph_H → Prop) (x1 : Int32) (x2 : Int32) (h : ph_H) : Prop := LP41 x1 (x2 + 1) h
set_option maxRecDepth 100000 in
set_option maxHeartbeats 4000000 in
theorem tX12_run_91 {X : fj_X} {Y : fj_Y} {l0 : Launch} {ad : Nat → Nat} (C : FC X Y l0 cX12_run 3 RX12 ({ frames := 6, cells := 0, slots := 0, locals := 133 } : Room) 0 0 (some .int)) (L31 : Int32 → ph_H → Int32 × ph_H) (LP31 : Int32 → ph_H → Prop) (hL31 : ∀ (x1 : Int32) (h : ph_H), LP31 x1 h → RETi X Y ad 50 SM cX12_run (L31 x1 h) → FJ X Y ad 50 SM h 31 [(0, .ref (ad 0)), (1, .int x1)] []) (L41 : Int32 → Int32 → ph_H → Int32 × ph_H) (LP41 : Int32 → Int32 → ph_H → Prop) (hL41 : ∀ (x1 : Int32) (x2 : Int32) (h : ph_H), LP41 x1 x2 h → RETi X Y ad 50 SM cX12_run (L41 x1 x2 h) → FJ X Y ad 50 SM h 41 [(0, .ref (ad 0)), (1, .int x1), (2, .int x2)] []) (x1 : Int32) (x2 : Int32) (h : ph_H) (hP : PX12_run_91 LP31 LP41 x1 x2 h) (hR : RETi X Y ad 50 SM cX12_run (FX12_run_91 L31 L41 x1 x2 h)) : FJ X Y ad 50 SM h 91 [(0, .ref (ad 0)), (1, .int x1), (2, .int x2)] [] := by
  unfold PX12_run_91 at hP
  unfold FX12_run_91 at hR
  refine j_iinc (v := (x2 + 1)) C dX12_run_91 rfl rfl (by decide) rfl ?_
  refine j_goto (tgt := 41) C dX12_run_94 (by decide) ?_
  exact j_vl (hL41 x1 (x2 + 1) h hP hR) ⟨rfl, rfl, rfl, trivial⟩
def FX12_run_97 (L31 : Int32 → ph_H → Int32 × ph_H) (x1 : Int32) (h : ph_H) : Int32 × ph_H := L31 (x1 + 1) h
def PX12_run_97 (LP31 : Int32 → ph_H → Prop) (x1 : Int32) (h : ph_H) : Prop := LP31 (x1 + 1) h
set_option maxRecDepth 100000 in
set_option maxHeartbeats 4000000 in
theorem tX12_run_97 {X : fj_X} {Y : fj_Y} {l0 : Launch} {ad : Nat → Nat} (C : FC X Y l0 cX12_run 3 RX12 ({ frames := 6, cells := 0, slots := 0, locals := 133 } : Room) 0 0 (some .int)) (L31 : Int32 → ph_H → Int32 × ph_H) (LP31 : Int32 → ph_H → Prop) (hL31 : ∀ (x1 : Int32) (h : ph_H), LP31 x1 h → RETi X Y ad 50 SM cX12_run (L31 x1 h) → FJ X Y ad 50 SM h 31 [(0, .ref (ad 0)), (1, .int x1)] []) (x1 : Int32) (h : ph_H) (hP : PX12_run_97 LP31 x1 h) (hR : RETi X Y ad 50 SM cX12_run (FX12_run_97 L31 x1 h)) : FJ X Y ad 50 SM h 97 [(0, .ref (ad 0)), (1, .int x1)] [] := by
  unfold PX12_run_97 at hP
  unfold FX12_run_97 at hR
  refine j_iinc (v := (x1 + 1)) C dX12_run_97 rfl rfl (by decide) rfl ?_
  refine j_goto (tgt := 31) C dX12_run_100 (by decide) ?_
  exact j_vl (hL31 (x1 + 1) h hP hR) ⟨rfl, rfl, trivial⟩
def FX12_run_41 (L31 : Int32 → ph_H → Int32 × ph_H) : Nat → Int32 → Int32 → ph_H → Int32 × ph_H
  | 0, _, _, h => (0, h)
  | q + 1, x1, x2, h => if (h 9 (x1.toNatClampNeg)) ≤ x2 then (FX12_run_97 L31 x1 h) else (if (h 0 25) = 0 then (if 300 ≤ (h 0 24) then (FX12_run_97 L31 x1 h) else (if (FX12_canGo (h 8 (x1.toNatClampNeg)) h) = 0 then (FX12_run_97 L31 x1 h) else (FX12_run_91 L31 (FX12_run_41 L31 q) x1 x2 (FX12_stepKept (h 8 (x1.toNatClampNeg)) h)))) else (FX12_run_97 L31 x1 h))
def PX12_run_41 (LP31 : Int32 → ph_H → Prop) : Nat → Int32 → Int32 → ph_H → Prop
  | 0, _, _, _ => False
  | q + 1, x1, x2, h => vp_in x1 40 ∧ (((h 9 (x1.toNatClampNeg)) ≤ x2 → (PX12_run_97 LP31 x1 h)) ∧ (¬ (h 9 (x1.toNatClampNeg)) ≤ x2 → (((h 0 25) = 0 → ((300 ≤ (h 0 24) → (PX12_run_97 LP31 x1 h)) ∧ (¬ 300 ≤ (h 0 24) → (vp_in x1 40 ∧ ((PX12_canGo (h 8 (x1.toNatClampNeg)) h) ∧ (((FX12_canGo (h 8 (x1.toNatClampNeg)) h) = 0 → (PX12_run_97 LP31 x1 h)) ∧ (¬ (FX12_canGo (h 8 (x1.toNatClampNeg)) h) = 0 → (vp_in x1 40 ∧ ((PX12_stepKept (h 8 (x1.toNatClampNeg)) h) ∧ (PX12_run_91 LP31 (PX12_run_41 LP31 q) x1 x2 (FX12_stepKept (h 8 (x1.toNatClampNeg)) h))))))))))) ∧ (¬ (h 0 25) = 0 → (PX12_run_97 LP31 x1 h)))))
set_option maxRecDepth 100000 in
set_option maxHeartbeats 4000000 in
theorem tX12_run_41 {X : fj_X} {Y : fj_Y} {l0 : Launch} {ad : Nat → Nat} (C : FC X Y l0 cX12_run 3 RX12 ({ frames := 6, cells := 0, slots := 0, locals := 133 } : Room) 0 0 (some .int)) (L31 : Int32 → ph_H → Int32 × ph_H) (LP31 : Int32 → ph_H → Prop) (hL31 : ∀ (x1 : Int32) (h : ph_H), LP31 x1 h → RETi X Y ad 50 SM cX12_run (L31 x1 h) → FJ X Y ad 50 SM h 31 [(0, .ref (ad 0)), (1, .int x1)] []) : ∀ (q : Nat) (x1 : Int32) (x2 : Int32) (h : ph_H), PX12_run_41 LP31 q x1 x2 h → RETi X Y ad 50 SM cX12_run (FX12_run_41 L31 q x1 x2 h) → FJ X Y ad 50 SM h 41 [(0, .ref (ad 0)), (1, .int x1), (2, .int x2)] [] := by
  intro q
  induction q with
  | zero =>
    intro x1 x2 h hP hR
    exact absurd hP id
  | succ q ih =>
    intro x1 x2 h hP hR
    unfold PX12_run_41 at hP
    unfold FX12_run_41 at hR
    refine j_iload_n C dX12_run_41 rfl rfl ?_
    refine j_aload_n C dX12_run_42 rfl rfl ?_
    refine gM_34 C dX12_run_43 ?_
    refine j_iload_n C dX12_run_46 rfl rfl ?_
    obtain ⟨p4, hP⟩ := hP
    refine j_iald (k := 9) (v := (h 9 (x1.toNatClampNeg))) C dX12_run_47 (by decide) rfl p4 rfl ?_
    refine j_icmp_ge (tgt := 97) C dX12_run_48 (by decide) (fun c0 => ?_) (fun c0 => ?_)
    · have hP := hP.1 c0
      rw [if_pos c0] at hR
      exact j_vl (tX12_run_97 C L31 LP31 hL31 x1 h hP hR) ⟨rfl, rfl, trivial⟩
    · have hP := hP.2 c0
      rw [if_neg c0] at hR
      refine j_aload_n C dX12_run_51 rfl rfl ?_
      refine gM_194 (v := (h 0 25)) C dX12_run_52 rfl ?_
      refine j_if_ne (tgt := 97) C dX12_run_55 (by decide) (fun c1 => ?_) (fun c1 => ?_)
      · have hP := hP.2 c1
        rw [if_neg c1] at hR
        exact j_vl (tX12_run_97 C L31 LP31 hL31 x1 h hP hR) ⟨rfl, rfl, trivial⟩
      · have hP := hP.1 c1
        rw [if_pos c1] at hR
        refine j_aload_n C dX12_run_58 rfl rfl ?_
        refine gM_191 (v := (h 0 24)) C dX12_run_59 rfl ?_
        refine j_sipush (v := 300) C dX12_run_62 (by decide) ?_
        refine j_icmp_ge (tgt := 97) C dX12_run_65 (by decide) (fun c2 => ?_) (fun c2 => ?_)
        · have hP := hP.1 c2
          rw [if_pos c2] at hR
          exact j_vl (tX12_run_97 C L31 LP31 hL31 x1 h hP hR) ⟨rfl, rfl, trivial⟩
        · have hP := hP.2 c2
          rw [if_neg c2] at hR
          refine j_aload_n C dX12_run_68 rfl rfl ?_
          refine j_aload_n C dX12_run_69 rfl rfl ?_
          refine gM_31 C dX12_run_70 ?_
          refine j_iload_n C dX12_run_73 rfl rfl ?_
          obtain ⟨p4, hP⟩ := hP
          refine j_iald (k := 8) (v := (h 8 (x1.toNatClampNeg))) C dX12_run_74 (by decide) rfl p4 rfl ?_
          obtain ⟨p6, hP⟩ := hP
          refine j_callV C (MX12_canGo (h 8 (x1.toNatClampNeg)) h p6) dX12_run_75 (CKX12_canGo (by decide)) ⟨rfl, rfl⟩ lk_RX12_215 in_X12_canGo se_X12_canGo (by decide) rfl rfl rfl (Nat.le_of_ble_eq_true rfl) ?_
          intro r S' h' hq
          obtain ⟨rfl, hh, rfl, hb8⟩ := hq
          rw [hh]
          refine j_if_eq (tgt := 97) C dX12_run_78 (by decide) (fun c3 => ?_) (fun c3 => ?_)
          · have hP := hP.1 c3
            rw [if_pos c3] at hR
            exact j_vl (tX12_run_97 C L31 LP31 hL31 x1 h hP hR) ⟨rfl, rfl, trivial⟩
          · have hP := hP.2 c3
            rw [if_neg c3] at hR
            refine j_aload_n C dX12_run_81 rfl rfl ?_
            refine j_aload_n C dX12_run_82 rfl rfl ?_
            refine gM_31 C dX12_run_83 ?_
            refine j_iload_n C dX12_run_86 rfl rfl ?_
            obtain ⟨p4, hP⟩ := hP
            refine j_iald (k := 8) (v := (h 8 (x1.toNatClampNeg))) C dX12_run_87 (by decide) rfl p4 rfl ?_
            obtain ⟨p6, hP⟩ := hP
            refine j_callVv C (MX12_stepKept (h 8 (x1.toNatClampNeg)) h p6) dX12_run_88 (CKX12_stepKept (by decide)) ⟨rfl, rfl⟩ lk_RX12_291 in_X12_stepKept se_X12_stepKept (by decide) rfl rfl rfl (Nat.le_of_ble_eq_true rfl) ?_
            intro S' h' hq
            obtain ⟨rfl, rfl⟩ := hq
            exact j_vl (tX12_run_91 C L31 LP31 hL31 (FX12_run_41 L31 q) (PX12_run_41 LP31 q) (ih) x1 x2 (FX12_stepKept (h 8 (x1.toNatClampNeg)) h) hP hR) ⟨rfl, rfl, rfl, trivial⟩
def FX12_run_138 (L112 : Int32 → ph_H → Int32 × ph_H) (h : ph_H) : Int32 × ph_H := L112 (FX12_free (h 0 26) h) h
def PX12_run_138 (LP112 : Int32 → ph_H → Prop) (h : ph_H) : Prop := (PX12_free (h 0 26) h) ∧ (LP112 (FX12_free (h 0 26) h) h)
set_option maxRecDepth 100000 in
set_option maxHeartbeats 4000000 in
theorem tX12_run_138 {X : fj_X} {Y : fj_Y} {l0 : Launch} {ad : Nat → Nat} (C : FC X Y l0 cX12_run 3 RX12 ({ frames := 6, cells := 0, slots := 0, locals := 133 } : Room) 0 0 (some .int)) (L112 : Int32 → ph_H → Int32 × ph_H) (LP112 : Int32 → ph_H → Prop) (hL112 : ∀ (x1 : Int32) (h : ph_H), LP112 x1 h → RETi X Y ad 50 SM cX12_run (L112 x1 h) → FJ X Y ad 50 SM h 112 [(0, .ref (ad 0)), (1, .int x1)] []) (h : ph_H) (hP : PX12_run_138 LP112 h) (hR : RETi X Y ad 50 SM cX12_run (FX12_run_138 L112 h)) : FJ X Y ad 50 SM h 138 [(0, .ref (ad 0))] [] := by
  unfold PX12_run_138 at hP
  unfold FX12_run_138 at hR
  refine j_aload_n C dX12_run_138 rfl rfl ?_
  refine j_aload_n C dX12_run_139 rfl rfl ?_
  refine gM_197 (v := (h 0 26)) C dX12_run_140 rfl ?_
  obtain ⟨p3, hP⟩ := hP
  refine j_callV C (MX12_free (h 0 26) h p3) dX12_run_143 (CKX12_free (by decide)) ⟨rfl, rfl⟩ lk_RX12_282 in_X12_free se_X12_free (by decide) rfl rfl rfl (Nat.le_of_ble_eq_true rfl) ?_
  intro r S' h' hq
  obtain ⟨rfl, hh, rfl⟩ := hq
  rw [hh]
  refine j_istore_n C dX12_run_146 rfl (by decide) rfl ?_
  refine j_goto (tgt := 112) C dX12_run_147 (by decide) ?_
  exact j_vl (hL112 (FX12_free (h 0 26) h) h hP hR) ⟨rfl, rfl, trivial⟩
def FX12_run_195  (s0 : Int32) (h : ph_H) : Int32 × ph_H := ((h 0 37), (hs (hs (hs h 0 40 s0) 0 41 (h 0 23)) 0 42 (h 0 24)))
def PX12_run_195  (s0 : Int32) (h : ph_H) : Prop := True
set_option maxRecDepth 100000 in
set_option maxHeartbeats 4000000 in
theorem tX12_run_195 {X : fj_X} {Y : fj_Y} {l0 : Launch} {ad : Nat → Nat} (C : FC X Y l0 cX12_run 3 RX12 ({ frames := 6, cells := 0, slots := 0, locals := 133 } : Room) 0 0 (some .int)) (s0 : Int32) (h : ph_H) (hP : PX12_run_195  s0 h) (hR : RETi X Y ad 50 SM cX12_run (FX12_run_195  s0 h)) : FJ X Y ad 50 SM h 195 [(0, .ref (ad 0))] [.int s0, .ref (ad 0)] := by
  unfold PX12_run_195 at hP
  unfold FX12_run_195 at hR
  refine pM_310 C dX12_run_195 ?_
  refine j_aload_n C dX12_run_198 rfl rfl ?_
  refine j_aload_n C dX12_run_199 rfl rfl ?_
  refine gM_188 (v := (h 0 23)) C dX12_run_200 (hz_i (by decide)) ?_
  refine pM_313 C dX12_run_203 ?_
  refine j_aload_n C dX12_run_206 rfl rfl ?_
  refine j_aload_n C dX12_run_207 rfl rfl ?_
  refine gM_191 (v := (h 0 24)) C dX12_run_208 ((hz_i (by decide)).trans (hz_i (by decide))) ?_
  refine pM_316 C dX12_run_211 ?_
  refine j_aload_n C dX12_run_214 rfl rfl ?_
  refine gM_301 (v := (h 0 37)) C dX12_run_215 ((hz_i (by decide)).trans ((hz_i (by decide)).trans (hz_i (by decide)))) ?_
  exact hR _ _ dX12_run_218
def FX12_run_150  (h : ph_H) : Int32 × ph_H := if (h 0 25) ≤ 0 then (FX12_run_195  (-1) (hs (hs (hs (hs h 0 36 1) 0 37 (FX12_ending (hs h 0 36 1))) 0 38 (h 0 24)) 0 39 (h 0 25))) else (FX12_run_195  (h 0 26) (hs (hs (hs (hs h 0 36 1) 0 37 (FX12_ending (hs h 0 36 1))) 0 38 (h 0 24)) 0 39 (h 0 25)))
def PX12_run_150  (h : ph_H) : Prop := (PX12_ending (hs h 0 36 1)) ∧ (((h 0 25) ≤ 0 → (PX12_run_195  (-1) (hs (hs (hs (hs h 0 36 1) 0 37 (FX12_ending (hs h 0 36 1))) 0 38 (h 0 24)) 0 39 (h 0 25)))) ∧ (¬ (h 0 25) ≤ 0 → (PX12_run_195  (h 0 26) (hs (hs (hs (hs h 0 36 1) 0 37 (FX12_ending (hs h 0 36 1))) 0 38 (h 0 24)) 0 39 (h 0 25)))))
set_option maxRecDepth 100000 in
set_option maxHeartbeats 4000000 in
theorem tX12_run_150 {X : fj_X} {Y : fj_Y} {l0 : Launch} {ad : Nat → Nat} (C : FC X Y l0 cX12_run 3 RX12 ({ frames := 6, cells := 0, slots := 0, locals := 133 } : Room) 0 0 (some .int)) (h : ph_H) (hP : PX12_run_150  h) (hR : RETi X Y ad 50 SM cX12_run (FX12_run_150  h)) : FJ X Y ad 50 SM h 150 [(0, .ref (ad 0))] [] := by
  unfold PX12_run_150 at hP
  unfold FX12_run_150 at hR
  refine j_aload_n C dX12_run_150 rfl rfl ?_
  refine j_iconst (v := 1) C dX12_run_151 (by decide) ?_
  refine pM_294 C dX12_run_152 bo_1 ?_
  refine j_aload_n C dX12_run_155 rfl rfl ?_
  refine j_aload_n C dX12_run_156 rfl rfl ?_
  obtain ⟨p5, hP⟩ := hP
  refine j_callV C (MX12_ending (hs h 0 36 1) p5) dX12_run_157 (CKX12_ending (by decide)) ⟨rfl, rfl⟩ lk_RX12_297 in_X12_ending se_X12_ending (by decide) rfl rfl rfl (Nat.le_of_ble_eq_true rfl) ?_
  intro r S' h' hq
  obtain ⟨rfl, hh, rfl⟩ := hq
  rw [hh]
  refine pM_301 C dX12_run_160 ?_
  refine j_aload_n C dX12_run_163 rfl rfl ?_
  refine j_aload_n C dX12_run_164 rfl rfl ?_
  refine gM_191 (v := (h 0 24)) C dX12_run_165 ((hz_i (by decide)).trans (hz_i (by decide))) ?_
  refine pM_304 C dX12_run_168 ?_
  refine j_aload_n C dX12_run_171 rfl rfl ?_
  refine j_aload_n C dX12_run_172 rfl rfl ?_
  refine gM_194 (v := (h 0 25)) C dX12_run_173 ((hz_i (by decide)).trans ((hz_i (by decide)).trans (hz_i (by decide)))) ?_
  refine pM_307 C dX12_run_176 ?_
  refine j_aload_n C dX12_run_179 rfl rfl ?_
  refine j_aload_n C dX12_run_180 rfl rfl ?_
  refine gM_194 (v := (h 0 25)) C dX12_run_181 ((hz_i (by decide)).trans ((hz_i (by decide)).trans ((hz_i (by decide)).trans (hz_i (by decide))))) ?_
  refine j_if_le (tgt := 194) C dX12_run_184 (by decide) (fun c0 => ?_) (fun c0 => ?_)
  · have hP := hP.1 c0
    rw [if_pos c0] at hR
    refine j_iconst (v := (-1)) C dX12_run_194 (by decide) ?_
    exact j_vl (tX12_run_195 C  (-1) (hs (hs (hs (hs h 0 36 1) 0 37 (FX12_ending (hs h 0 36 1))) 0 38 (h 0 24)) 0 39 (h 0 25)) hP hR) ⟨rfl, trivial⟩
  · have hP := hP.2 c0
    rw [if_neg c0] at hR
    refine j_aload_n C dX12_run_187 rfl rfl ?_
    refine gM_197 (v := (h 0 26)) C dX12_run_188 ((hz_i (by decide)).trans ((hz_i (by decide)).trans ((hz_i (by decide)).trans (hz_i (by decide))))) ?_
    refine j_goto (tgt := 195) C dX12_run_191 (by decide) ?_
    exact j_vl (tX12_run_195 C  (h 0 26) (hs (hs (hs (hs h 0 36 1) 0 37 (FX12_ending (hs h 0 36 1))) 0 38 (h 0 24)) 0 39 (h 0 25)) hP hR) ⟨rfl, trivial⟩
def FX12_run_112  : Nat → Int32 → ph_H → Int32 × ph_H
  | 0, _, h => (0, h)
  | q + 1, x1, h => if x1 < 0 then (FX12_run_150  h) else (if (h 0 25) = 0 then (if 300 ≤ (h 0 24) then (FX12_run_150  h) else (FX12_run_138 (FX12_run_112  q) (FX12_stepKept x1 h))) else (FX12_run_150  h))
def PX12_run_112  : Nat → Int32 → ph_H → Prop
  | 0, _, _ => False
  | q + 1, x1, h => (x1 < 0 → (PX12_run_150  h)) ∧ (¬ x1 < 0 → (((h 0 25) = 0 → ((300 ≤ (h 0 24) → (PX12_run_150  h)) ∧ (¬ 300 ≤ (h 0 24) → ((PX12_stepKept x1 h) ∧ (PX12_run_138 (PX12_run_112  q) (FX12_stepKept x1 h)))))) ∧ (¬ (h 0 25) = 0 → (PX12_run_150  h))))
set_option maxRecDepth 100000 in
set_option maxHeartbeats 4000000 in
theorem tX12_run_112 {X : fj_X} {Y : fj_Y} {l0 : Launch} {ad : Nat → Nat} (C : FC X Y l0 cX12_run 3 RX12 ({ frames := 6, cells := 0, slots := 0, locals := 133 } : Room) 0 0 (some .int)) : ∀ (q : Nat) (x1 : Int32) (h : ph_H), PX12_run_112  q x1 h → RETi X Y ad 50 SM cX12_run (FX12_run_112  q x1 h) → FJ X Y ad 50 SM h 112 [(0, .ref (ad 0)), (1, .int x1)] [] := by
  intro q
  induction q with
  | zero =>
    intro x1 h hP hR
    exact absurd hP id
  | succ q ih =>
    intro x1 h hP hR
    unfold PX12_run_112 at hP
    unfold FX12_run_112 at hR
    refine j_iload_n C dX12_run_112 rfl rfl ?_
    refine j_if_lt (tgt := 150) C dX12_run_113 (by decide) (fun c0 => ?_) (fun c0 => ?_)
    · have hP := hP.1 c0
      rw [if_pos c0] at hR
      exact j_vl (tX12_run_150 C  h hP hR) ⟨rfl, trivial⟩
    · have hP := hP.2 c0
      rw [if_neg c0] at hR
      refine j_aload_n C dX12_run_116 rfl rfl ?_
      refine gM_194 (v := (h 0 25)) C dX12_run_117 rfl ?_
      refine j_if_ne (tgt := 150) C dX12_run_120 (by decide) (fun c1 => ?_) (fun c1 => ?_)
      · have hP := hP.2 c1
        rw [if_neg c1] at hR
        exact j_vl (tX12_run_150 C  h hP hR) ⟨rfl, trivial⟩
      · have hP := hP.1 c1
        rw [if_pos c1] at hR
        refine j_aload_n C dX12_run_123 rfl rfl ?_
        refine gM_191 (v := (h 0 24)) C dX12_run_124 rfl ?_
        refine j_sipush (v := 300) C dX12_run_127 (by decide) ?_
        refine j_icmp_ge (tgt := 150) C dX12_run_130 (by decide) (fun c2 => ?_) (fun c2 => ?_)
        · have hP := hP.1 c2
          rw [if_pos c2] at hR
          exact j_vl (tX12_run_150 C  h hP hR) ⟨rfl, trivial⟩
        · have hP := hP.2 c2
          rw [if_neg c2] at hR
          refine j_aload_n C dX12_run_133 rfl rfl ?_
          refine j_iload_n C dX12_run_134 rfl rfl ?_
          obtain ⟨p2, hP⟩ := hP
          refine j_callVv C (MX12_stepKept x1 h p2) dX12_run_135 (CKX12_stepKept (by decide)) ⟨rfl, rfl⟩ lk_RX12_291 in_X12_stepKept se_X12_stepKept (by decide) rfl rfl rfl (Nat.le_of_ble_eq_true rfl) ?_
          intro S' h' hq
          obtain ⟨rfl, rfl⟩ := hq
          exact j_vl (tX12_run_138 C (FX12_run_112  q) (PX12_run_112  q) (ih) (FX12_stepKept x1 h) hP hR) ⟨rfl, trivial⟩
def FX12_run_31  : Nat → Int32 → ph_H → Int32 × ph_H
  | 0, _, h => (0, h)
  | q + 1, x1, h => if (h 0 9) ≤ x1 then (FX12_run_112 2000 (FX12_free (h 0 26) h) h) else (FX12_run_41 (FX12_run_31  q) 2000 x1 0 h)
def PX12_run_31  : Nat → Int32 → ph_H → Prop
  | 0, _, _ => False
  | q + 1, x1, h => ((h 0 9) ≤ x1 → ((PX12_free (h 0 26) h) ∧ (PX12_run_112 2000 (FX12_free (h 0 26) h) h))) ∧ (¬ (h 0 9) ≤ x1 → (PX12_run_41 (PX12_run_31  q) 2000 x1 0 h))
set_option maxRecDepth 100000 in
set_option maxHeartbeats 4000000 in
theorem tX12_run_31 {X : fj_X} {Y : fj_Y} {l0 : Launch} {ad : Nat → Nat} (C : FC X Y l0 cX12_run 3 RX12 ({ frames := 6, cells := 0, slots := 0, locals := 133 } : Room) 0 0 (some .int)) : ∀ (q : Nat) (x1 : Int32) (h : ph_H), PX12_run_31  q x1 h → RETi X Y ad 50 SM cX12_run (FX12_run_31  q x1 h) → FJ X Y ad 50 SM h 31 [(0, .ref (ad 0)), (1, .int x1)] [] := by
  intro q
  induction q with
  | zero =>
    intro x1 h hP hR
    exact absurd hP id
  | succ q ih =>
    intro x1 h hP hR
    unfold PX12_run_31 at hP
    unfold FX12_run_31 at hR
    refine j_iload_n C dX12_run_31 rfl rfl ?_
    refine j_aload_n C dX12_run_32 rfl rfl ?_
    refine gM_182 (v := (h 0 9)) C dX12_run_33 rfl ?_
    refine j_icmp_ge (tgt := 103) C dX12_run_36 (by decide) (fun c0 => ?_) (fun c0 => ?_)
    · have hP := hP.1 c0
      rw [if_pos c0] at hR
      refine j_aload_n C dX12_run_103 rfl rfl ?_
      refine j_aload_n C dX12_run_104 rfl rfl ?_
      refine gM_197 (v := (h 0 26)) C dX12_run_105 rfl ?_
      obtain ⟨p3, hP⟩ := hP
      refine j_callV C (MX12_free (h 0 26) h p3) dX12_run_108 (CKX12_free (by decide)) ⟨rfl, rfl⟩ lk_RX12_282 in_X12_free se_X12_free (by decide) rfl rfl rfl (Nat.le_of_ble_eq_true rfl) ?_
      intro r S' h' hq
      obtain ⟨rfl, hh, rfl⟩ := hq
      rw [hh]
      refine j_istore_n C dX12_run_111 rfl (by decide) rfl ?_
      exact j_vl (tX12_run_112 C 2000 (FX12_free (h 0 26) h) h hP hR) ⟨rfl, rfl, trivial⟩
    · have hP := hP.2 c0
      rw [if_neg c0] at hR
      refine j_iconst (v := 0) C dX12_run_39 (by decide) ?_
      refine j_istore_n C dX12_run_40 rfl (by decide) rfl ?_
      exact j_vl (tX12_run_41 C (FX12_run_31  q) (PX12_run_31  q) (ih) 2000 x1 0 h hP hR) ⟨rfl, rfl, rfl, trivial⟩
def FX12_run_29  (h : ph_H) : Int32 × ph_H := FX12_run_31 2000 0 h
def PX12_run_29  (h : ph_H) : Prop := PX12_run_31 2000 0 h
set_option maxRecDepth 100000 in
set_option maxHeartbeats 4000000 in
theorem tX12_run_29 {X : fj_X} {Y : fj_Y} {l0 : Launch} {ad : Nat → Nat} (C : FC X Y l0 cX12_run 3 RX12 ({ frames := 6, cells := 0, slots := 0, locals := 133 } : Room) 0 0 (some .int)) (h : ph_H) (hP : PX12_run_29  h) (hR : RETi X Y ad 50 SM cX12_run (FX12_run_29  h)) : FJ X Y ad 50 SM h 29 [(0, .ref (ad 0))] [] := by
  unfold PX12_run_29 at hP
  unfold FX12_run_29 at hR
  refine j_iconst (v := 0) C dX12_run_29 (by decide) ?_
  refine j_istore_n C dX12_run_30 rfl (by decide) rfl ?_
  exact j_vl (tX12_run_31 C 2000 0 h hP hR) ⟨rfl, rfl, trivial⟩
def FX12_run_14  (h : ph_H) : Int32 × ph_H := FX12_run_29  (FX12_keep 0 (hs (hs h 0 60 0) 0 64 0))
def PX12_run_14  (h : ph_H) : Prop := (PX12_keep 0 (hs (hs h 0 60 0) 0 64 0)) ∧ (PX12_run_29  (FX12_keep 0 (hs (hs h 0 60 0) 0 64 0)))
set_option maxRecDepth 100000 in
set_option maxHeartbeats 4000000 in
theorem tX12_run_14 {X : fj_X} {Y : fj_Y} {l0 : Launch} {ad : Nat → Nat} (C : FC X Y l0 cX12_run 3 RX12 ({ frames := 6, cells := 0, slots := 0, locals := 133 } : Room) 0 0 (some .int)) (h : ph_H) (hP : PX12_run_14  h) (hR : RETi X Y ad 50 SM cX12_run (FX12_run_14  h)) : FJ X Y ad 50 SM h 14 [(0, .ref (ad 0))] [] := by
  unfold PX12_run_14 at hP
  unfold FX12_run_14 at hR
  refine j_aload_n C dX12_run_14 rfl rfl ?_
  refine j_iconst (v := 0) C dX12_run_15 (by decide) ?_
  refine pM_272 C dX12_run_16 ?_
  refine j_aload_n C dX12_run_19 rfl rfl ?_
  refine j_iconst (v := 0) C dX12_run_20 (by decide) ?_
  refine pM_288 C dX12_run_21 bo_0 ?_
  refine j_aload_n C dX12_run_24 rfl rfl ?_
  refine j_iconst (v := 0) C dX12_run_25 (by decide) ?_
  obtain ⟨p8, hP⟩ := hP
  refine j_callVv C (MX12_keep 0 (hs (hs h 0 60 0) 0 64 0) p8) dX12_run_26 (CKX12_keep (by decide)) ⟨rfl, rfl⟩ lk_RX12_279 in_X12_keep se_X12_keep (by decide) rfl rfl rfl (Nat.le_of_ble_eq_true rfl) ?_
  intro S' h' hq
  obtain ⟨rfl, rfl⟩ := hq
  exact j_vl (tX12_run_29 C  (FX12_keep 0 (hs (hs h 0 60 0) 0 64 0)) hP hR) ⟨rfl, trivial⟩
def FX12_run (h : ph_H) : Int32 × ph_H := FX12_run_14  (FX12_begin (hs (hs h 0 0 0) 0 33 0))
def PX12_run (h : ph_H) : Prop := (PX12_begin (hs (hs h 0 0 0) 0 33 0)) ∧ (PX12_run_14  (FX12_begin (hs (hs h 0 0 0) 0 33 0)))
set_option maxRecDepth 100000 in
set_option maxHeartbeats 4000000 in
theorem tX12_run {X : fj_X} {Y : fj_Y} {l0 : Launch} {ad : Nat → Nat} (C : FC X Y l0 cX12_run 3 RX12 ({ frames := 6, cells := 0, slots := 0, locals := 133 } : Room) 0 0 (some .int)) (h : ph_H) (hP : PX12_run h) (hR : RETi X Y ad 50 SM cX12_run (FX12_run h)) : FJ X Y ad 50 SM h 0 [(0, .ref (ad 0))] [] := by
  unfold PX12_run at hP
  unfold FX12_run at hR
  refine j_aload_n C dX12_run_0 rfl rfl ?_
  refine j_iconst (v := 0) C dX12_run_1 (by decide) ?_
  refine pM_164 C dX12_run_2 ?_
  refine j_aload_n C dX12_run_5 rfl rfl ?_
  refine j_iconst (v := 0) C dX12_run_6 (by decide) ?_
  refine pM_218 C dX12_run_7 bo_0 ?_
  refine j_aload_n C dX12_run_10 rfl rfl ?_
  obtain ⟨p7, hP⟩ := hP
  refine j_callVv C (MX12_begin (hs (hs h 0 0 0) 0 33 0) p7) dX12_run_11 (CKX12_begin (by decide)) ⟨rfl, rfl⟩ lk_RX12_285 in_X12_begin se_X12_begin (by decide) rfl rfl rfl (Nat.le_of_ble_eq_true rfl) ?_
  intro S' h' hq
  obtain ⟨rfl, rfl⟩ := hq
  exact j_vl (tX12_run_14 C  (FX12_begin (hs (hs h 0 0 0) 0 33 0)) hP hR) ⟨rfl, trivial⟩
theorem MX12_run {l0 : Launch} {Y : fj_Y} {ad : Nat → Nat} (h : ph_H) (hP : PX12_run h) : MI l0 yX12_run cX12_run 3 (some .int) ({ frames := 6, cells := 0, slots := 0, locals := 133 } : Room) Y ad 50 SM h [.ref (ad 0)] (fun r S' h' => S' = SM ∧ h' = (FX12_run h).2 ∧ r = (FX12_run h).1) := met_i (by decide) (Nat.le_of_ble_eq_true rfl) (fun _ _ _ _ => rfl) (fun X C K => j_vl (tX12_run C h hP (fun pc lv hd => K _ _ _ ⟨rfl, rfl, rfl⟩ pc lv hd)) ⟨rfl, trivial⟩)

-- X12_told
def FX12_told (a0 : Int32) (h : ph_H) : Int32 × ph_H := if (h 0 36) = 0 then (((-2), (hs h 0 0 0))) else (if a0 = 0 then (((h 0 37), (hs h 0 0 0))) else (if a0 = 1 then (((h 0 38), (hs h 0 0 0))) else (if a0 = 2 then (((h 0 39), (hs h 0 0 0))) else (if a0 = 3 then (((h 0 40), (hs h 0 0 0))) else (if a0 = 4 then (((h 24 ((h 0 38).toNatClampNeg)), (hs h 0 0 0))) else (if a0 = 5 then (((h 0 60), (hs h 0 0 0))) else (if a0 = 6 then (((h 0 41), (hs h 0 0 0))) else (if a0 = 7 then ((((3 * (h 0 60)) + (4 * (h 0 41))), (hs h 0 0 0))) else (((-1), (hs h 0 0 0)))))))))))
def PX12_told (a0 : Int32) (h : ph_H) : Prop := ((h 0 36) = 0 → (True)) ∧ (¬ (h 0 36) = 0 → ((a0 = 0 → (True)) ∧ (¬ a0 = 0 → ((a0 = 1 → (True)) ∧ (¬ a0 = 1 → ((a0 = 2 → (True)) ∧ (¬ a0 = 2 → ((a0 = 3 → (True)) ∧ (¬ a0 = 3 → ((a0 = 4 → (vp_in (h 0 38) 301 ∧ (True))) ∧ (¬ a0 = 4 → ((a0 = 5 → (True)) ∧ (¬ a0 = 5 → ((a0 = 6 → (True)) ∧ (¬ a0 = 6 → ((a0 = 7 → (True)) ∧ (¬ a0 = 7 → (True))))))))))))))))))
set_option maxRecDepth 100000 in
set_option maxHeartbeats 4000000 in
theorem tX12_told {X : fj_X} {Y : fj_Y} {l0 : Launch} {ad : Nat → Nat} (C : FC X Y l0 cX12_told 2 RX12 ({ frames := 0, cells := 0, slots := 0, locals := 0 } : Room) 0 0 (some .int)) (a0 : Int32) (h : ph_H) (hP : PX12_told a0 h) (hR : RETi X Y ad 50 SM cX12_told (FX12_told a0 h)) : FJ X Y ad 50 SM h 0 [(0, .ref (ad 0)), (1, .int a0)] [] := by
  unfold PX12_told at hP
  unfold FX12_told at hR
  refine j_aload_n C dX12_told_0 rfl rfl ?_
  refine j_iconst (v := 0) C dX12_told_1 (by decide) ?_
  refine pM_164 C dX12_told_2 ?_
  refine j_aload_n C dX12_told_5 rfl rfl ?_
  refine gM_294 (v := (h 0 36)) C dX12_told_6 (hz_i (by decide)) ?_
  refine j_if_ne (tgt := 15) C dX12_told_9 (by decide) (fun c0 => ?_) (fun c0 => ?_)
  · have hP := hP.2 c0
    rw [if_neg c0] at hR
    refine j_iload_n C dX12_told_15 rfl rfl ?_
    rcases Classical.em (a0 = 0) with c1 | c1
    · have hP := hP.1 c1
      rw [if_pos c1] at hR
      refine j_tableIn (tgt := 64) (off := 48) C dX12_told_16 (by rw [c1]; decide) (by rw [c1]; decide) (by rw [c1]; decide) (by decide) ?_
      refine j_aload_n C dX12_told_64 rfl rfl ?_
      refine gM_301 (v := (h 0 37)) C dX12_told_65 (hz_i (by decide)) ?_
      exact hR _ _ dX12_told_68
    have hP := hP.2 c1
    rw [if_neg c1] at hR
    rcases Classical.em (a0 = 1) with c2 | c2
    · have hP := hP.1 c2
      rw [if_pos c2] at hR
      refine j_tableIn (tgt := 69) (off := 53) C dX12_told_16 (by rw [c2]; decide) (by rw [c2]; decide) (by rw [c2]; decide) (by decide) ?_
      refine j_aload_n C dX12_told_69 rfl rfl ?_
      refine gM_304 (v := (h 0 38)) C dX12_told_70 (hz_i (by decide)) ?_
      exact hR _ _ dX12_told_73
    have hP := hP.2 c2
    rw [if_neg c2] at hR
    rcases Classical.em (a0 = 2) with c3 | c3
    · have hP := hP.1 c3
      rw [if_pos c3] at hR
      refine j_tableIn (tgt := 74) (off := 58) C dX12_told_16 (by rw [c3]; decide) (by rw [c3]; decide) (by rw [c3]; decide) (by decide) ?_
      refine j_aload_n C dX12_told_74 rfl rfl ?_
      refine gM_307 (v := (h 0 39)) C dX12_told_75 (hz_i (by decide)) ?_
      exact hR _ _ dX12_told_78
    have hP := hP.2 c3
    rw [if_neg c3] at hR
    rcases Classical.em (a0 = 3) with c4 | c4
    · have hP := hP.1 c4
      rw [if_pos c4] at hR
      refine j_tableIn (tgt := 79) (off := 63) C dX12_told_16 (by rw [c4]; decide) (by rw [c4]; decide) (by rw [c4]; decide) (by decide) ?_
      refine j_aload_n C dX12_told_79 rfl rfl ?_
      refine gM_310 (v := (h 0 40)) C dX12_told_80 (hz_i (by decide)) ?_
      exact hR _ _ dX12_told_83
    have hP := hP.2 c4
    rw [if_neg c4] at hR
    rcases Classical.em (a0 = 4) with c5 | c5
    · have hP := hP.1 c5
      rw [if_pos c5] at hR
      refine j_tableIn (tgt := 84) (off := 68) C dX12_told_16 (by rw [c5]; decide) (by rw [c5]; decide) (by rw [c5]; decide) (by decide) ?_
      refine j_aload_n C dX12_told_84 rfl rfl ?_
      refine gM_80 C dX12_told_85 ?_
      refine j_aload_n C dX12_told_88 rfl rfl ?_
      refine gM_304 (v := (h 0 38)) C dX12_told_89 (hz_i (by decide)) ?_
      obtain ⟨p4, hP⟩ := hP
      refine j_iald (k := 24) (v := (h 24 ((h 0 38).toNatClampNeg))) C dX12_told_92 (by decide) rfl p4 (hz_k (by decide)) ?_
      exact hR _ _ dX12_told_93
    have hP := hP.2 c5
    rw [if_neg c5] at hR
    rcases Classical.em (a0 = 5) with c6 | c6
    · have hP := hP.1 c6
      rw [if_pos c6] at hR
      refine j_tableIn (tgt := 94) (off := 78) C dX12_told_16 (by rw [c6]; decide) (by rw [c6]; decide) (by rw [c6]; decide) (by decide) ?_
      refine j_aload_n C dX12_told_94 rfl rfl ?_
      refine gM_272 (v := (h 0 60)) C dX12_told_95 (hz_i (by decide)) ?_
      exact hR _ _ dX12_told_98
    have hP := hP.2 c6
    rw [if_neg c6] at hR
    rcases Classical.em (a0 = 6) with c7 | c7
    · have hP := hP.1 c7
      rw [if_pos c7] at hR
      refine j_tableIn (tgt := 99) (off := 83) C dX12_told_16 (by rw [c7]; decide) (by rw [c7]; decide) (by rw [c7]; decide) (by decide) ?_
      refine j_aload_n C dX12_told_99 rfl rfl ?_
      refine gM_313 (v := (h 0 41)) C dX12_told_100 (hz_i (by decide)) ?_
      exact hR _ _ dX12_told_103
    have hP := hP.2 c7
    rw [if_neg c7] at hR
    rcases Classical.em (a0 = 7) with c8 | c8
    · have hP := hP.1 c8
      rw [if_pos c8] at hR
      refine j_tableIn (tgt := 104) (off := 88) C dX12_told_16 (by rw [c8]; decide) (by rw [c8]; decide) (by rw [c8]; decide) (by decide) ?_
      refine j_iconst (v := 3) C dX12_told_104 (by decide) ?_
      refine j_aload_n C dX12_told_105 rfl rfl ?_
      refine gM_272 (v := (h 0 60)) C dX12_told_106 (hz_i (by decide)) ?_
      refine j_imul C dX12_told_109 ?_
      refine j_iconst (v := 4) C dX12_told_110 (by decide) ?_
      refine j_aload_n C dX12_told_111 rfl rfl ?_
      refine gM_313 (v := (h 0 41)) C dX12_told_112 (hz_i (by decide)) ?_
      refine j_imul C dX12_told_115 ?_
      refine j_iadd C dX12_told_116 ?_
      exact hR _ _ dX12_told_117
    have hP := hP.2 c8
    rw [if_neg c8] at hR
    refine j_tableOut (tgt := 118) C dX12_told_16 (sw_out (fun v h1 h2 e => by rcases (show v = 0 ∨ v = 1 ∨ v = 2 ∨ v = 3 ∨ v = 4 ∨ v = 5 ∨ v = 6 ∨ v = 7 by omega) with z | z | z | z | z | z | z | z <;> rw [z] at e <;> first | exact c1 (e.trans (by decide)) | exact c2 (e.trans (by decide)) | exact c3 (e.trans (by decide)) | exact c4 (e.trans (by decide)) | exact c5 (e.trans (by decide)) | exact c6 (e.trans (by decide)) | exact c7 (e.trans (by decide)) | exact c8 (e.trans (by decide)))) (by decide) ?_
    refine j_iconst (v := (-1)) C dX12_told_118 (by decide) ?_
    exact hR _ _ dX12_told_119
  · have hP := hP.1 c0
    rw [if_pos c0] at hR
    refine j_bipush (v := (-2)) C dX12_told_12 (by decide) ?_
    exact hR _ _ dX12_told_14
theorem MX12_told {l0 : Launch} {Y : fj_Y} {ad : Nat → Nat} (a0 : Int32) (h : ph_H) (hP : PX12_told a0 h) : MI l0 yX12_told cX12_told 2 (some .int) ({ frames := 0, cells := 0, slots := 0, locals := 0 } : Room) Y ad 50 SM h [.ref (ad 0), .int a0] (fun r S' h' => S' = SM ∧ h' = (FX12_told a0 h).2 ∧ r = (FX12_told a0 h).1) := met_i (by decide) (Nat.le_of_ble_eq_true rfl) (fun _ _ _ _ => rfl) (fun X C K => j_vl (tX12_told C a0 h hP (fun pc lv hd => K _ _ _ ⟨rfl, rfl, rfl⟩ pc lv hd)) ⟨rfl, rfl, trivial⟩)

-- X12_change
def FX12_change_36  (h : ph_H) : Int32 × ph_H := ((-1), h)
def PX12_change_36  (h : ph_H) : Prop := True
set_option maxRecDepth 100000 in
set_option maxHeartbeats 4000000 in
theorem tX12_change_36 {X : fj_X} {Y : fj_Y} {l0 : Launch} {ad : Nat → Nat} (C : FC X Y l0 cX12_change 3 RX12 ({ frames := 1, cells := 0, slots := 0, locals := 25 } : Room) 0 0 (some .int)) (h : ph_H) (hP : PX12_change_36  h) (hR : RETi X Y ad 50 SM cX12_change (FX12_change_36  h)) : FJ X Y ad 50 SM h 36 [] [] := by
  unfold PX12_change_36 at hP
  unfold FX12_change_36 at hR
  refine j_iconst (v := (-1)) C dX12_change_36 (by decide) ?_
  refine j_goto (tgt := 59) C dX12_change_37 (by decide) ?_
  exact hR _ _ dX12_change_59
def FX12_change (a0 : Int32) (a1 : Int32) (h : ph_H) : Int32 × ph_H := if (h 0 36) = 0 then (((-1), (hs h 0 0 0))) else (if a0 < 0 then (FX12_change_36  (hs h 0 0 0)) else (if (h 0 60) ≤ a0 then (FX12_change_36  (hs h 0 0 0)) else (if (FX12_isIn a1.toInt64 0 1) = 0 then (FX12_change_36  (hs h 0 0 0)) else (if a1 = 0 then (((h 37 (a0.toNatClampNeg)), (hs h 0 0 0))) else (((h 38 (a0.toNatClampNeg)), (hs h 0 0 0)))))))
def PX12_change (a0 : Int32) (a1 : Int32) (h : ph_H) : Prop := ((h 0 36) = 0 → (True)) ∧ (¬ (h 0 36) = 0 → ((a0 < 0 → (PX12_change_36  (hs h 0 0 0))) ∧ (¬ a0 < 0 → (((h 0 60) ≤ a0 → (PX12_change_36  (hs h 0 0 0))) ∧ (¬ (h 0 60) ≤ a0 → ((PX12_isIn a1.toInt64 0 1) ∧ (((FX12_isIn a1.toInt64 0 1) = 0 → (PX12_change_36  (hs h 0 0 0))) ∧ (¬ (FX12_isIn a1.toInt64 0 1) = 0 → ((a1 = 0 → (vp_in a0 301 ∧ (True))) ∧ (¬ a1 = 0 → (vp_in a0 301 ∧ (True))))))))))))
set_option maxRecDepth 100000 in
set_option maxHeartbeats 4000000 in
theorem tX12_change {X : fj_X} {Y : fj_Y} {l0 : Launch} {ad : Nat → Nat} (C : FC X Y l0 cX12_change 3 RX12 ({ frames := 1, cells := 0, slots := 0, locals := 25 } : Room) 0 0 (some .int)) (a0 : Int32) (a1 : Int32) (h : ph_H) (hP : PX12_change a0 a1 h) (hR : RETi X Y ad 50 SM cX12_change (FX12_change a0 a1 h)) : FJ X Y ad 50 SM h 0 [(0, .ref (ad 0)), (1, .int a0), (2, .int a1)] [] := by
  unfold PX12_change at hP
  unfold FX12_change at hR
  refine j_aload_n C dX12_change_0 rfl rfl ?_
  refine j_iconst (v := 0) C dX12_change_1 (by decide) ?_
  refine pM_164 C dX12_change_2 ?_
  refine j_aload_n C dX12_change_5 rfl rfl ?_
  refine gM_294 (v := (h 0 36)) C dX12_change_6 (hz_i (by decide)) ?_
  refine j_if_ne (tgt := 14) C dX12_change_9 (by decide) (fun c0 => ?_) (fun c0 => ?_)
  · have hP := hP.2 c0
    rw [if_neg c0] at hR
    refine j_iload_n C dX12_change_14 rfl rfl ?_
    refine j_if_lt (tgt := 36) C dX12_change_15 (by decide) (fun c1 => ?_) (fun c1 => ?_)
    · have hP := hP.1 c1
      rw [if_pos c1] at hR
      exact j_vl (tX12_change_36 C  (hs h 0 0 0) hP hR) trivial
    · have hP := hP.2 c1
      rw [if_neg c1] at hR
      refine j_iload_n C dX12_change_18 rfl rfl ?_
      refine j_aload_n C dX12_change_19 rfl rfl ?_
      refine gM_272 (v := (h 0 60)) C dX12_change_20 (hz_i (by decide)) ?_
      refine j_icmp_ge (tgt := 36) C dX12_change_23 (by decide) (fun c2 => ?_) (fun c2 => ?_)
      · have hP := hP.1 c2
        rw [if_pos c2] at hR
        exact j_vl (tX12_change_36 C  (hs h 0 0 0) hP hR) trivial
      · have hP := hP.2 c2
        rw [if_neg c2] at hR
        refine j_iload_n C dX12_change_26 rfl rfl ?_
        refine j_i2l C dX12_change_27 ?_
        refine j_lconst (v := 0) C dX12_change_28 (by decide) ?_
        refine j_lconst (v := 1) C dX12_change_29 (by decide) ?_
        obtain ⟨p4, hP⟩ := hP
        refine j_callS C (MX12_isIn a1.toInt64 0 1 (hs h 0 0 0) p4) dX12_change_30 (CKX12_isIn (by decide)) ⟨rfl, rfl⟩ lk_RX12_169 st_X12_isIn rfl (Nat.le_of_ble_eq_true rfl) ?_
        intro r S' h' hq
        obtain ⟨rfl, hh, rfl, hb6⟩ := hq
        rw [hh]
        refine j_if_ne (tgt := 40) C dX12_change_33 (by decide) (fun c3 => ?_) (fun c3 => ?_)
        · have hP := hP.2 c3
          rw [if_neg c3] at hR
          refine j_iload_n C dX12_change_40 rfl rfl ?_
          refine j_if_ne (tgt := 53) C dX12_change_41 (by decide) (fun c4 => ?_) (fun c4 => ?_)
          · have hP := hP.2 c4
            rw [if_neg c4] at hR
            refine j_aload_n C dX12_change_53 rfl rfl ?_
            refine gM_123 C dX12_change_54 ?_
            refine j_iload_n C dX12_change_57 rfl rfl ?_
            obtain ⟨p3, hP⟩ := hP
            refine j_iald (k := 38) (v := (h 38 (a0.toNatClampNeg))) C dX12_change_58 (by decide) rfl p3 (hz_k (by decide)) ?_
            exact hR _ _ dX12_change_59
          · have hP := hP.1 c4
            rw [if_pos c4] at hR
            refine j_aload_n C dX12_change_44 rfl rfl ?_
            refine gM_120 C dX12_change_45 ?_
            refine j_iload_n C dX12_change_48 rfl rfl ?_
            obtain ⟨p3, hP⟩ := hP
            refine j_iald (k := 37) (v := (h 37 (a0.toNatClampNeg))) C dX12_change_49 (by decide) rfl p3 (hz_k (by decide)) ?_
            refine j_goto (tgt := 59) C dX12_change_50 (by decide) ?_
            exact hR _ _ dX12_change_59
        · have hP := hP.1 c3
          rw [if_pos c3] at hR
          exact j_vl (tX12_change_36 C  (hs h 0 0 0) hP hR) trivial
  · have hP := hP.1 c0
    rw [if_pos c0] at hR
    refine j_iconst (v := (-1)) C dX12_change_12 (by decide) ?_
    exact hR _ _ dX12_change_13
theorem MX12_change {l0 : Launch} {Y : fj_Y} {ad : Nat → Nat} (a0 : Int32) (a1 : Int32) (h : ph_H) (hP : PX12_change a0 a1 h) : MI l0 yX12_change cX12_change 3 (some .int) ({ frames := 1, cells := 0, slots := 0, locals := 25 } : Room) Y ad 50 SM h [.ref (ad 0), .int a0, .int a1] (fun r S' h' => S' = SM ∧ h' = (FX12_change a0 a1 h).2 ∧ r = (FX12_change a0 a1 h).1) := met_i (by decide) (Nat.le_of_ble_eq_true rfl) (fun _ _ _ _ => rfl) (fun X C K => j_vl (tX12_change C a0 a1 h hP (fun pc lv hd => K _ _ _ ⟨rfl, rfl, rfl⟩ pc lv hd)) ⟨rfl, rfl, rfl, trivial⟩)

-- X12_step_
def FX12_step_ (a0 : Int32) (a1 : Int32) (h : ph_H) : Int32 × ph_H := if (h 0 36) = 0 then (((-1), (hs h 0 0 0))) else (if (FX12_isIn a0.toInt64 1 ((h 0 38).toInt64)) = 0 then (((-1), (hs h 0 0 0))) else (if a1 = 0 then (((h 29 (a0.toNatClampNeg)), (hs h 0 0 0))) else (if a1 = 1 then (((h 30 (a0.toNatClampNeg)), (hs h 0 0 0))) else (if a1 = 2 then (((h 31 (a0.toNatClampNeg)), (hs h 0 0 0))) else (if a1 = 3 then (((h 32 (a0.toNatClampNeg)), (hs h 0 0 0))) else (if a1 = 4 then (((h 33 (a0.toNatClampNeg)), (hs h 0 0 0))) else (if a1 = 5 then (((h 34 (a0.toNatClampNeg)), (hs h 0 0 0))) else (((-1), (hs h 0 0 0))))))))))
def PX12_step_ (a0 : Int32) (a1 : Int32) (h : ph_H) : Prop := ((h 0 36) = 0 → (True)) ∧ (¬ (h 0 36) = 0 → ((PX12_isIn a0.toInt64 1 ((h 0 38).toInt64)) ∧ (((FX12_isIn a0.toInt64 1 ((h 0 38).toInt64)) = 0 → (True)) ∧ (¬ (FX12_isIn a0.toInt64 1 ((h 0 38).toInt64)) = 0 → ((a1 = 0 → (vp_in a0 301 ∧ (True))) ∧ (¬ a1 = 0 → ((a1 = 1 → (vp_in a0 301 ∧ (True))) ∧ (¬ a1 = 1 → ((a1 = 2 → (vp_in a0 301 ∧ (True))) ∧ (¬ a1 = 2 → ((a1 = 3 → (vp_in a0 301 ∧ (True))) ∧ (¬ a1 = 3 → ((a1 = 4 → (vp_in a0 301 ∧ (True))) ∧ (¬ a1 = 4 → ((a1 = 5 → (vp_in a0 301 ∧ (True))) ∧ (¬ a1 = 5 → (True)))))))))))))))))
set_option maxRecDepth 100000 in
set_option maxHeartbeats 4000000 in
theorem tX12_step_ {X : fj_X} {Y : fj_Y} {l0 : Launch} {ad : Nat → Nat} (C : FC X Y l0 cX12_step_ 3 RX12 ({ frames := 1, cells := 0, slots := 0, locals := 25 } : Room) 0 0 (some .int)) (a0 : Int32) (a1 : Int32) (h : ph_H) (hP : PX12_step_ a0 a1 h) (hR : RETi X Y ad 50 SM cX12_step_ (FX12_step_ a0 a1 h)) : FJ X Y ad 50 SM h 0 [(0, .ref (ad 0)), (1, .int a0), (2, .int a1)] [] := by
  unfold PX12_step_ at hP
  unfold FX12_step_ at hR
  refine j_aload_n C dX12_step__0 rfl rfl ?_
  refine j_iconst (v := 0) C dX12_step__1 (by decide) ?_
  refine pM_164 C dX12_step__2 ?_
  refine j_aload_n C dX12_step__5 rfl rfl ?_
  refine gM_294 (v := (h 0 36)) C dX12_step__6 (hz_i (by decide)) ?_
  refine j_if_ne (tgt := 14) C dX12_step__9 (by decide) (fun c0 => ?_) (fun c0 => ?_)
  · have hP := hP.2 c0
    rw [if_neg c0] at hR
    refine j_iload_n C dX12_step__14 rfl rfl ?_
    refine j_i2l C dX12_step__15 ?_
    refine j_lconst (v := 1) C dX12_step__16 (by decide) ?_
    refine j_aload_n C dX12_step__17 rfl rfl ?_
    refine gM_304 (v := (h 0 38)) C dX12_step__18 (hz_i (by decide)) ?_
    refine j_i2l C dX12_step__21 ?_
    obtain ⟨p6, hP⟩ := hP
    refine j_callS C (MX12_isIn a0.toInt64 1 ((h 0 38).toInt64) (hs h 0 0 0) p6) dX12_step__22 (CKX12_isIn (by decide)) ⟨rfl, rfl⟩ lk_RX12_169 st_X12_isIn rfl (Nat.le_of_ble_eq_true rfl) ?_
    intro r S' h' hq
    obtain ⟨rfl, hh, rfl, hb8⟩ := hq
    rw [hh]
    refine j_if_ne (tgt := 30) C dX12_step__25 (by decide) (fun c1 => ?_) (fun c1 => ?_)
    · have hP := hP.2 c1
      rw [if_neg c1] at hR
      refine j_iload_n C dX12_step__30 rfl rfl ?_
      rcases Classical.em (a1 = 0) with c2 | c2
      · have hP := hP.1 c2
        rw [if_pos c2] at hR
        refine j_tableIn (tgt := 68) (off := 37) C dX12_step__31 (by rw [c2]; decide) (by rw [c2]; decide) (by rw [c2]; decide) (by decide) ?_
        refine j_aload_n C dX12_step__68 rfl rfl ?_
        refine gM_96 C dX12_step__69 ?_
        refine j_iload_n C dX12_step__72 rfl rfl ?_
        obtain ⟨p3, hP⟩ := hP
        refine j_iald (k := 29) (v := (h 29 (a0.toNatClampNeg))) C dX12_step__73 (by decide) rfl p3 (hz_k (by decide)) ?_
        exact hR _ _ dX12_step__74
      have hP := hP.2 c2
      rw [if_neg c2] at hR
      rcases Classical.em (a1 = 1) with c3 | c3
      · have hP := hP.1 c3
        rw [if_pos c3] at hR
        refine j_tableIn (tgt := 75) (off := 44) C dX12_step__31 (by rw [c3]; decide) (by rw [c3]; decide) (by rw [c3]; decide) (by decide) ?_
        refine j_aload_n C dX12_step__75 rfl rfl ?_
        refine gM_99 C dX12_step__76 ?_
        refine j_iload_n C dX12_step__79 rfl rfl ?_
        obtain ⟨p3, hP⟩ := hP
        refine j_iald (k := 30) (v := (h 30 (a0.toNatClampNeg))) C dX12_step__80 (by decide) rfl p3 (hz_k (by decide)) ?_
        exact hR _ _ dX12_step__81
      have hP := hP.2 c3
      rw [if_neg c3] at hR
      rcases Classical.em (a1 = 2) with c4 | c4
      · have hP := hP.1 c4
        rw [if_pos c4] at hR
        refine j_tableIn (tgt := 82) (off := 51) C dX12_step__31 (by rw [c4]; decide) (by rw [c4]; decide) (by rw [c4]; decide) (by decide) ?_
        refine j_aload_n C dX12_step__82 rfl rfl ?_
        refine gM_102 C dX12_step__83 ?_
        refine j_iload_n C dX12_step__86 rfl rfl ?_
        obtain ⟨p3, hP⟩ := hP
        refine j_iald (k := 31) (v := (h 31 (a0.toNatClampNeg))) C dX12_step__87 (by decide) rfl p3 (hz_k (by decide)) ?_
        exact hR _ _ dX12_step__88
      have hP := hP.2 c4
      rw [if_neg c4] at hR
      rcases Classical.em (a1 = 3) with c5 | c5
      · have hP := hP.1 c5
        rw [if_pos c5] at hR
        refine j_tableIn (tgt := 89) (off := 58) C dX12_step__31 (by rw [c5]; decide) (by rw [c5]; decide) (by rw [c5]; decide) (by decide) ?_
        refine j_aload_n C dX12_step__89 rfl rfl ?_
        refine gM_105 C dX12_step__90 ?_
        refine j_iload_n C dX12_step__93 rfl rfl ?_
        obtain ⟨p3, hP⟩ := hP
        refine j_iald (k := 32) (v := (h 32 (a0.toNatClampNeg))) C dX12_step__94 (by decide) rfl p3 (hz_k (by decide)) ?_
        exact hR _ _ dX12_step__95
      have hP := hP.2 c5
      rw [if_neg c5] at hR
      rcases Classical.em (a1 = 4) with c6 | c6
      · have hP := hP.1 c6
        rw [if_pos c6] at hR
        refine j_tableIn (tgt := 96) (off := 65) C dX12_step__31 (by rw [c6]; decide) (by rw [c6]; decide) (by rw [c6]; decide) (by decide) ?_
        refine j_aload_n C dX12_step__96 rfl rfl ?_
        refine gM_108 C dX12_step__97 ?_
        refine j_iload_n C dX12_step__100 rfl rfl ?_
        obtain ⟨p3, hP⟩ := hP
        refine j_iald (k := 33) (v := (h 33 (a0.toNatClampNeg))) C dX12_step__101 (by decide) rfl p3 (hz_k (by decide)) ?_
        exact hR _ _ dX12_step__102
      have hP := hP.2 c6
      rw [if_neg c6] at hR
      rcases Classical.em (a1 = 5) with c7 | c7
      · have hP := hP.1 c7
        rw [if_pos c7] at hR
        refine j_tableIn (tgt := 103) (off := 72) C dX12_step__31 (by rw [c7]; decide) (by rw [c7]; decide) (by rw [c7]; decide) (by decide) ?_
        refine j_aload_n C dX12_step__103 rfl rfl ?_
        refine gM_111 C dX12_step__104 ?_
        refine j_iload_n C dX12_step__107 rfl rfl ?_
        obtain ⟨p3, hP⟩ := hP
        refine j_iald (k := 34) (v := (h 34 (a0.toNatClampNeg))) C dX12_step__108 (by decide) rfl p3 (hz_k (by decide)) ?_
        exact hR _ _ dX12_step__109
      have hP := hP.2 c7
      rw [if_neg c7] at hR
      refine j_tableOut (tgt := 110) C dX12_step__31 (sw_out (fun v h1 h2 e => by rcases (show v = 0 ∨ v = 1 ∨ v = 2 ∨ v = 3 ∨ v = 4 ∨ v = 5 by omega) with z | z | z | z | z | z <;> rw [z] at e <;> first | exact c2 (e.trans (by decide)) | exact c3 (e.trans (by decide)) | exact c4 (e.trans (by decide)) | exact c5 (e.trans (by decide)) | exact c6 (e.trans (by decide)) | exact c7 (e.trans (by decide)))) (by decide) ?_
      refine j_iconst (v := (-1)) C dX12_step__110 (by decide) ?_
      exact hR _ _ dX12_step__111
    · have hP := hP.1 c1
      rw [if_pos c1] at hR
      refine j_iconst (v := (-1)) C dX12_step__28 (by decide) ?_
      exact hR _ _ dX12_step__29
  · have hP := hP.1 c0
    rw [if_pos c0] at hR
    refine j_iconst (v := (-1)) C dX12_step__12 (by decide) ?_
    exact hR _ _ dX12_step__13
theorem MX12_step_ {l0 : Launch} {Y : fj_Y} {ad : Nat → Nat} (a0 : Int32) (a1 : Int32) (h : ph_H) (hP : PX12_step_ a0 a1 h) : MI l0 yX12_step_ cX12_step_ 3 (some .int) ({ frames := 1, cells := 0, slots := 0, locals := 25 } : Room) Y ad 50 SM h [.ref (ad 0), .int a0, .int a1] (fun r S' h' => S' = SM ∧ h' = (FX12_step_ a0 a1 h).2 ∧ r = (FX12_step_ a0 a1 h).1) := met_i (by decide) (Nat.le_of_ble_eq_true rfl) (fun _ _ _ _ => rfl) (fun X C K => j_vl (tX12_step_ C a0 a1 h hP (fun pc lv hd => K _ _ _ ⟨rfl, rfl, rfl⟩ pc lv hd)) ⟨rfl, rfl, rfl, trivial⟩)

-- X12_toldThread
def FX12_toldThread_33 (L5 : Int32 → Int32 → Int32 → Int32 → ph_H → Int32) (x1 : Int32) (x2 : Int32) (x4 : Int32) (s0 : Int32) (h : ph_H) : Int32 := L5 x1 x2 s0 (x4 + 1) h
def PX12_toldThread_33 (LP5 : Int32 → Int32 → Int32 → Int32 → ph_H → Prop) (x1 : Int32) (x2 : Int32) (x4 : Int32) (s0 : Int32) (h : ph_H) : Prop := LP5 x1 x2 s0 (x4 + 1) h
set_option maxRecDepth 100000 in
set_option maxHeartbeats 4000000 in
theorem tX12_toldThread_33 {X : fj_X} {Y : fj_Y} {l0 : Launch} {ad : Nat → Nat} (C : FC X Y l0 cX12_toldThread 5 RX12 ({ frames := 0, cells := 0, slots := 0, locals := 0 } : Room) 0 0 (some .int)) (h : ph_H) (L5 : Int32 → Int32 → Int32 → Int32 → ph_H → Int32) (LP5 : Int32 → Int32 → Int32 → Int32 → ph_H → Prop) (hL5 : ∀ (x1 : Int32) (x2 : Int32) (x3 : Int32) (x4 : Int32), LP5 x1 x2 x3 x4 h → RETp X Y ad 50 SM h cX12_toldThread (L5 x1 x2 x3 x4 h) → FJ X Y ad 50 SM h 5 [(0, .ref (ad 0)), (1, .int x1), (2, .int x2), (3, .int x3), (4, .int x4)] []) (x1 : Int32) (x2 : Int32) (x4 : Int32) (s0 : Int32) (hP : PX12_toldThread_33 LP5 x1 x2 x4 s0 h) (hR : RETp X Y ad 50 SM h cX12_toldThread (FX12_toldThread_33 L5 x1 x2 x4 s0 h)) : FJ X Y ad 50 SM h 33 [(0, .ref (ad 0)), (1, .int x1), (2, .int x2), (4, .int x4)] [.int s0] := by
  unfold PX12_toldThread_33 at hP
  unfold FX12_toldThread_33 at hR
  refine j_istore_n C dX12_toldThread_33 rfl (by decide) rfl ?_
  refine j_iinc (v := (x4 + 1)) C dX12_toldThread_34 rfl rfl (by decide) rfl ?_
  refine j_goto (tgt := 5) C dX12_toldThread_37 (by decide) ?_
  exact j_vl (hL5 x1 x2 s0 (x4 + 1) hP hR) ⟨rfl, rfl, rfl, rfl, rfl, trivial⟩
def FX12_toldThread_5  : Nat → Int32 → Int32 → Int32 → Int32 → ph_H → Int32
  | 0, _, _, _, _, _ => 0
  | q + 1, x1, x2, x3, x4, h => if x1 ≤ x4 then (x3) else (if x2 ≤ (h 37 (x4.toNatClampNeg)) then (FX12_toldThread_33 (FX12_toldThread_5  q) x1 x2 x4 x3 h) else (FX12_toldThread_33 (FX12_toldThread_5  q) x1 x2 x4 (h 38 (x4.toNatClampNeg)) h))
def PX12_toldThread_5  : Nat → Int32 → Int32 → Int32 → Int32 → ph_H → Prop
  | 0, _, _, _, _, _ => False
  | q + 1, x1, x2, x3, x4, h => (x1 ≤ x4 → (True)) ∧ (¬ x1 ≤ x4 → (vp_in x4 301 ∧ ((x2 ≤ (h 37 (x4.toNatClampNeg)) → (PX12_toldThread_33 (PX12_toldThread_5  q) x1 x2 x4 x3 h)) ∧ (¬ x2 ≤ (h 37 (x4.toNatClampNeg)) → (vp_in x4 301 ∧ (PX12_toldThread_33 (PX12_toldThread_5  q) x1 x2 x4 (h 38 (x4.toNatClampNeg)) h))))))
set_option maxRecDepth 100000 in
set_option maxHeartbeats 4000000 in
theorem tX12_toldThread_5 {X : fj_X} {Y : fj_Y} {l0 : Launch} {ad : Nat → Nat} (C : FC X Y l0 cX12_toldThread 5 RX12 ({ frames := 0, cells := 0, slots := 0, locals := 0 } : Room) 0 0 (some .int)) (h : ph_H) : ∀ (q : Nat) (x1 : Int32) (x2 : Int32) (x3 : Int32) (x4 : Int32), PX12_toldThread_5  q x1 x2 x3 x4 h → RETp X Y ad 50 SM h cX12_toldThread (FX12_toldThread_5  q x1 x2 x3 x4 h) → FJ X Y ad 50 SM h 5 [(0, .ref (ad 0)), (1, .int x1), (2, .int x2), (3, .int x3), (4, .int x4)] [] := by
  intro q
  induction q with
  | zero =>
    intro x1 x2 x3 x4 hP hR
    exact absurd hP id
  | succ q ih =>
    intro x1 x2 x3 x4 hP hR
    unfold PX12_toldThread_5 at hP
    unfold FX12_toldThread_5 at hR
    refine j_iload C dX12_toldThread_5 rfl ?_
    refine j_iload_n C dX12_toldThread_7 rfl rfl ?_
    refine j_icmp_ge (tgt := 40) C dX12_toldThread_8 (by decide) (fun c0 => ?_) (fun c0 => ?_)
    · have hP := hP.1 c0
      rw [if_pos c0] at hR
      refine j_iload_n C dX12_toldThread_40 rfl rfl ?_
      exact hR _ _ dX12_toldThread_41
    · have hP := hP.2 c0
      rw [if_neg c0] at hR
      refine j_aload_n C dX12_toldThread_11 rfl rfl ?_
      refine gM_120 C dX12_toldThread_12 ?_
      refine j_iload C dX12_toldThread_15 rfl ?_
      obtain ⟨p3, hP⟩ := hP
      refine j_iald (k := 37) (v := (h 37 (x4.toNatClampNeg))) C dX12_toldThread_17 (by decide) rfl p3 rfl ?_
      refine j_iload_n C dX12_toldThread_18 rfl rfl ?_
      refine j_icmp_ge (tgt := 32) C dX12_toldThread_19 (by decide) (fun c1 => ?_) (fun c1 => ?_)
      · have hP := hP.1 c1
        rw [if_pos c1] at hR
        refine j_iload_n C dX12_toldThread_32 rfl rfl ?_
        exact j_vl (tX12_toldThread_33 C h (FX12_toldThread_5  q) (PX12_toldThread_5  q) (ih) x1 x2 x4 x3 hP hR) ⟨rfl, rfl, rfl, rfl, trivial⟩
      · have hP := hP.2 c1
        rw [if_neg c1] at hR
        refine j_aload_n C dX12_toldThread_22 rfl rfl ?_
        refine gM_123 C dX12_toldThread_23 ?_
        refine j_iload C dX12_toldThread_26 rfl ?_
        obtain ⟨p3, hP⟩ := hP
        refine j_iald (k := 38) (v := (h 38 (x4.toNatClampNeg))) C dX12_toldThread_28 (by decide) rfl p3 rfl ?_
        refine j_goto (tgt := 33) C dX12_toldThread_29 (by decide) ?_
        exact j_vl (tX12_toldThread_33 C h (FX12_toldThread_5  q) (PX12_toldThread_5  q) (ih) x1 x2 x4 (h 38 (x4.toNatClampNeg)) hP hR) ⟨rfl, rfl, rfl, rfl, trivial⟩
def FX12_toldThread (a0 : Int32) (a1 : Int32) (h : ph_H) : Int32 := FX12_toldThread_5 2000 a0 a1 0 0 h
def PX12_toldThread (a0 : Int32) (a1 : Int32) (h : ph_H) : Prop := PX12_toldThread_5 2000 a0 a1 0 0 h
set_option maxRecDepth 100000 in
set_option maxHeartbeats 4000000 in
theorem tX12_toldThread {X : fj_X} {Y : fj_Y} {l0 : Launch} {ad : Nat → Nat} (C : FC X Y l0 cX12_toldThread 5 RX12 ({ frames := 0, cells := 0, slots := 0, locals := 0 } : Room) 0 0 (some .int)) (a0 : Int32) (a1 : Int32) (h : ph_H) (hP : PX12_toldThread a0 a1 h) (hR : RETp X Y ad 50 SM h cX12_toldThread (FX12_toldThread a0 a1 h)) : FJ X Y ad 50 SM h 0 [(0, .ref (ad 0)), (1, .int a0), (2, .int a1)] [] := by
  unfold PX12_toldThread at hP
  unfold FX12_toldThread at hR
  refine j_iconst (v := 0) C dX12_toldThread_0 (by decide) ?_
  refine j_istore_n C dX12_toldThread_1 rfl (by decide) rfl ?_
  refine j_iconst (v := 0) C dX12_toldThread_2 (by decide) ?_
  refine j_istore C dX12_toldThread_3 (by decide) rfl ?_
  exact j_vl (tX12_toldThread_5 C h 2000 a0 a1 0 0 hP hR) ⟨rfl, rfl, rfl, rfl, rfl, trivial⟩
theorem MX12_toldThread {l0 : Launch} {Y : fj_Y} {ad : Nat → Nat} (a0 : Int32) (a1 : Int32) (h : ph_H) (hP : PX12_toldThread a0 a1 h) : MI l0 yX12_toldThread cX12_toldThread 5 (some .int) ({ frames := 0, cells := 0, slots := 0, locals := 0 } : Room) Y ad 50 SM h [.ref (ad 0), .int a0, .int a1] (fun r S' h' => S' = SM ∧ h' = h ∧ r = FX12_toldThread a0 a1 h) := met_i (by decide) (Nat.le_of_ble_eq_true rfl) (fun _ _ _ _ => rfl) (fun X C K => j_vl (tX12_toldThread C a0 a1 h hP (fun pc lv hd => K _ _ _ ⟨rfl, rfl, rfl⟩ pc lv hd)) ⟨rfl, rfl, rfl, trivial⟩)

-- X12_play
def FX12_play_242 (L83 : Int32 → Int32 → ph_H → Int32 × ph_H) (x1 : Int32) (x3 : Int32) (h : ph_H) : Int32 × ph_H := L83 x1 x3 h
def PX12_play_242 (LP83 : Int32 → Int32 → ph_H → Prop) (x1 : Int32) (x3 : Int32) (h : ph_H) : Prop := LP83 x1 x3 h
set_option maxRecDepth 100000 in
set_option maxHeartbeats 4000000 in
theorem tX12_play_242 {X : fj_X} {Y : fj_Y} {l0 : Launch} {ad : Nat → Nat} (C : FC X Y l0 cX12_play 6 RX12 ({ frames := 4, cells := 0, slots := 0, locals := 100 } : Room) 0 0 (some .int)) (L83 : Int32 → Int32 → ph_H → Int32 × ph_H) (LP83 : Int32 → Int32 → ph_H → Prop) (hL83 : ∀ (x1 : Int32) (x3 : Int32) (h : ph_H), LP83 x1 x3 h → RETi X Y ad 50 SM cX12_play (L83 x1 x3 h) → FJ X Y ad 50 SM h 83 [(0, .ref (ad 0)), (1, .int x1), (3, .int x3)] []) (x1 : Int32) (x3 : Int32) (h : ph_H) (hP : PX12_play_242 LP83 x1 x3 h) (hR : RETi X Y ad 50 SM cX12_play (FX12_play_242 L83 x1 x3 h)) : FJ X Y ad 50 SM h 242 [(0, .ref (ad 0)), (1, .int x1), (3, .int x3)] [] := by
  unfold PX12_play_242 at hP
  unfold FX12_play_242 at hR
  refine j_goto (tgt := 83) C dX12_play_242 (by decide) ?_
  exact j_vl (hL83 x1 x3 h hP hR) ⟨rfl, rfl, rfl, trivial⟩
def FX12_play_203 (L83 : Int32 → Int32 → ph_H → Int32 × ph_H) (x1 : Int32) (x3 : Int32) (s0 : Int32) (h : ph_H) : Int32 × ph_H := FX12_play_242 L83 x1 x3 (hs h 0 66 s0)
def PX12_play_203 (LP83 : Int32 → Int32 → ph_H → Prop) (x1 : Int32) (x3 : Int32) (s0 : Int32) (h : ph_H) : Prop := PX12_play_242 LP83 x1 x3 (hs h 0 66 s0)
set_option maxRecDepth 100000 in
set_option maxHeartbeats 4000000 in
theorem tX12_play_203 {X : fj_X} {Y : fj_Y} {l0 : Launch} {ad : Nat → Nat} (C : FC X Y l0 cX12_play 6 RX12 ({ frames := 4, cells := 0, slots := 0, locals := 100 } : Room) 0 0 (some .int)) (L83 : Int32 → Int32 → ph_H → Int32 × ph_H) (LP83 : Int32 → Int32 → ph_H → Prop) (hL83 : ∀ (x1 : Int32) (x3 : Int32) (h : ph_H), LP83 x1 x3 h → RETi X Y ad 50 SM cX12_play (L83 x1 x3 h) → FJ X Y ad 50 SM h 83 [(0, .ref (ad 0)), (1, .int x1), (3, .int x3)] []) (x1 : Int32) (x3 : Int32) (s0 : Int32) (h : ph_H) (hP : PX12_play_203 LP83 x1 x3 s0 h) (hR : RETi X Y ad 50 SM cX12_play (FX12_play_203 L83 x1 x3 s0 h)) : FJ X Y ad 50 SM h 203 [(0, .ref (ad 0)), (1, .int x1), (3, .int x3)] [.int s0, .ref (ad 0)] := by
  unfold PX12_play_203 at hP
  unfold FX12_play_203 at hR
  refine pM_130 C dX12_play_203 ?_
  refine j_goto (tgt := 242) C dX12_play_206 (by decide) ?_
  exact j_vl (tX12_play_242 C L83 LP83 hL83 x1 x3 (hs h 0 66 s0) hP hR) ⟨rfl, rfl, rfl, trivial⟩
def FX12_play_239 (L83 : Int32 → Int32 → ph_H → Int32 × ph_H) (x1 : Int32) (x3 : Int32) (s0 : Int32) (h : ph_H) : Int32 × ph_H := FX12_play_242 L83 x1 x3 (hs h 0 66 s0)
def PX12_play_239 (LP83 : Int32 → Int32 → ph_H → Prop) (x1 : Int32) (x3 : Int32) (s0 : Int32) (h : ph_H) : Prop := PX12_play_242 LP83 x1 x3 (hs h 0 66 s0)
set_option maxRecDepth 100000 in
set_option maxHeartbeats 4000000 in
theorem tX12_play_239 {X : fj_X} {Y : fj_Y} {l0 : Launch} {ad : Nat → Nat} (C : FC X Y l0 cX12_play 6 RX12 ({ frames := 4, cells := 0, slots := 0, locals := 100 } : Room) 0 0 (some .int)) (L83 : Int32 → Int32 → ph_H → Int32 × ph_H) (LP83 : Int32 → Int32 → ph_H → Prop) (hL83 : ∀ (x1 : Int32) (x3 : Int32) (h : ph_H), LP83 x1 x3 h → RETi X Y ad 50 SM cX12_play (L83 x1 x3 h) → FJ X Y ad 50 SM h 83 [(0, .ref (ad 0)), (1, .int x1), (3, .int x3)] []) (x1 : Int32) (x3 : Int32) (s0 : Int32) (h : ph_H) (hP : PX12_play_239 LP83 x1 x3 s0 h) (hR : RETi X Y ad 50 SM cX12_play (FX12_play_239 L83 x1 x3 s0 h)) : FJ X Y ad 50 SM h 239 [(0, .ref (ad 0)), (1, .int x1), (3, .int x3)] [.int s0, .ref (ad 0)] := by
  unfold PX12_play_239 at hP
  unfold FX12_play_239 at hR
  refine pM_130 C dX12_play_239 ?_
  exact j_vl (tX12_play_242 C L83 LP83 hL83 x1 x3 (hs h 0 66 s0) hP hR) ⟨rfl, rfl, rfl, trivial⟩
def FX12_play_215 (L83 : Int32 → Int32 → ph_H → Int32 × ph_H) (x1 : Int32) (x3 : Int32) (h : ph_H) : Int32 × ph_H := if (h 0 35) = 0 then (if (h 0 25) ≤ 0 then (FX12_play_239 L83 x1 x3 (-1) h) else (FX12_play_239 L83 x1 x3 3 h)) else (FX12_play_239 L83 x1 x3 2 h)
def PX12_play_215 (LP83 : Int32 → Int32 → ph_H → Prop) (x1 : Int32) (x3 : Int32) (h : ph_H) : Prop := ((h 0 35) = 0 → (((h 0 25) ≤ 0 → (PX12_play_239 LP83 x1 x3 (-1) h)) ∧ (¬ (h 0 25) ≤ 0 → (PX12_play_239 LP83 x1 x3 3 h)))) ∧ (¬ (h 0 35) = 0 → (PX12_play_239 LP83 x1 x3 2 h))
set_option maxRecDepth 100000 in
set_option maxHeartbeats 4000000 in
theorem tX12_play_215 {X : fj_X} {Y : fj_Y} {l0 : Launch} {ad : Nat → Nat} (C : FC X Y l0 cX12_play 6 RX12 ({ frames := 4, cells := 0, slots := 0, locals := 100 } : Room) 0 0 (some .int)) (L83 : Int32 → Int32 → ph_H → Int32 × ph_H) (LP83 : Int32 → Int32 → ph_H → Prop) (hL83 : ∀ (x1 : Int32) (x3 : Int32) (h : ph_H), LP83 x1 x3 h → RETi X Y ad 50 SM cX12_play (L83 x1 x3 h) → FJ X Y ad 50 SM h 83 [(0, .ref (ad 0)), (1, .int x1), (3, .int x3)] []) (x1 : Int32) (x3 : Int32) (h : ph_H) (hP : PX12_play_215 LP83 x1 x3 h) (hR : RETi X Y ad 50 SM cX12_play (FX12_play_215 L83 x1 x3 h)) : FJ X Y ad 50 SM h 215 [(0, .ref (ad 0)), (1, .int x1), (3, .int x3)] [] := by
  unfold PX12_play_215 at hP
  unfold FX12_play_215 at hR
  refine j_aload_n C dX12_play_215 rfl rfl ?_
  refine j_aload_n C dX12_play_216 rfl rfl ?_
  refine gM_200 (v := (h 0 35)) C dX12_play_217 rfl ?_
  refine j_if_eq (tgt := 227) C dX12_play_220 (by decide) (fun c0 => ?_) (fun c0 => ?_)
  · have hP := hP.1 c0
    rw [if_pos c0] at hR
    refine j_aload_n C dX12_play_227 rfl rfl ?_
    refine gM_194 (v := (h 0 25)) C dX12_play_228 rfl ?_
    refine j_if_le (tgt := 238) C dX12_play_231 (by decide) (fun c1 => ?_) (fun c1 => ?_)
    · have hP := hP.1 c1
      rw [if_pos c1] at hR
      refine j_iconst (v := (-1)) C dX12_play_238 (by decide) ?_
      exact j_vl (tX12_play_239 C L83 LP83 hL83 x1 x3 (-1) h hP hR) ⟨rfl, rfl, rfl, trivial⟩
    · have hP := hP.2 c1
      rw [if_neg c1] at hR
      refine j_iconst (v := 3) C dX12_play_234 (by decide) ?_
      refine j_goto (tgt := 239) C dX12_play_235 (by decide) ?_
      exact j_vl (tX12_play_239 C L83 LP83 hL83 x1 x3 3 h hP hR) ⟨rfl, rfl, rfl, trivial⟩
  · have hP := hP.2 c0
    rw [if_neg c0] at hR
    refine j_iconst (v := 2) C dX12_play_223 (by decide) ?_
    refine j_goto (tgt := 239) C dX12_play_224 (by decide) ?_
    exact j_vl (tX12_play_239 C L83 LP83 hL83 x1 x3 2 h hP hR) ⟨rfl, rfl, rfl, trivial⟩
def FX12_play_166 (L83 : Int32 → Int32 → ph_H → Int32 × ph_H) (x1 : Int32) (x3 : Int32) (x5 : Int32) (h : ph_H) : Int32 × ph_H := if 0 ≤ x5 then (if (h 0 24) = 300 then (if (FX12_free 0 h) < 0 then (FX12_play_203 L83 x1 x3 0 h) else (FX12_play_203 L83 x1 x3 4 h)) else (FX12_play_215 L83 x1 x3 (FX12_step x5 h))) else (FX12_play_242 L83 x1 x3 (hs h 0 66 0))
def PX12_play_166 (LP83 : Int32 → Int32 → ph_H → Prop) (x1 : Int32) (x3 : Int32) (x5 : Int32) (h : ph_H) : Prop := (0 ≤ x5 → (((h 0 24) = 300 → ((PX12_free 0 h) ∧ (((FX12_free 0 h) < 0 → (PX12_play_203 LP83 x1 x3 0 h)) ∧ (¬ (FX12_free 0 h) < 0 → (PX12_play_203 LP83 x1 x3 4 h))))) ∧ (¬ (h 0 24) = 300 → ((PX12_step x5 h) ∧ (PX12_play_215 LP83 x1 x3 (FX12_step x5 h)))))) ∧ (¬ 0 ≤ x5 → (PX12_play_242 LP83 x1 x3 (hs h 0 66 0)))
set_option maxRecDepth 100000 in
set_option maxHeartbeats 4000000 in
theorem tX12_play_166 {X : fj_X} {Y : fj_Y} {l0 : Launch} {ad : Nat → Nat} (C : FC X Y l0 cX12_play 6 RX12 ({ frames := 4, cells := 0, slots := 0, locals := 100 } : Room) 0 0 (some .int)) (L83 : Int32 → Int32 → ph_H → Int32 × ph_H) (LP83 : Int32 → Int32 → ph_H → Prop) (hL83 : ∀ (x1 : Int32) (x3 : Int32) (h : ph_H), LP83 x1 x3 h → RETi X Y ad 50 SM cX12_play (L83 x1 x3 h) → FJ X Y ad 50 SM h 83 [(0, .ref (ad 0)), (1, .int x1), (3, .int x3)] []) (x1 : Int32) (x3 : Int32) (x5 : Int32) (h : ph_H) (hP : PX12_play_166 LP83 x1 x3 x5 h) (hR : RETi X Y ad 50 SM cX12_play (FX12_play_166 L83 x1 x3 x5 h)) : FJ X Y ad 50 SM h 166 [(0, .ref (ad 0)), (1, .int x1), (3, .int x3), (5, .int x5)] [] := by
  unfold PX12_play_166 at hP
  unfold FX12_play_166 at hR
  refine j_iload C dX12_play_166 rfl ?_
  refine j_if_ge (tgt := 179) C dX12_play_168 (by decide) (fun c0 => ?_) (fun c0 => ?_)
  · have hP := hP.1 c0
    rw [if_pos c0] at hR
    refine j_aload_n C dX12_play_179 rfl rfl ?_
    refine gM_191 (v := (h 0 24)) C dX12_play_180 rfl ?_
    refine j_sipush (v := 300) C dX12_play_183 (by decide) ?_
    refine j_icmp_ne (tgt := 209) C dX12_play_186 (by decide) (fun c1 => ?_) (fun c1 => ?_)
    · have hP := hP.2 c1
      rw [if_neg c1] at hR
      refine j_aload_n C dX12_play_209 rfl rfl ?_
      refine j_iload C dX12_play_210 rfl ?_
      obtain ⟨p2, hP⟩ := hP
      refine j_callVv C (MX12_step x5 h p2) dX12_play_212 (CKX12_step (by decide)) ⟨rfl, rfl⟩ lk_RX12_275 in_X12_step se_X12_step (by decide) rfl rfl rfl (Nat.le_of_ble_eq_true rfl) ?_
      intro S' h' hq
      obtain ⟨rfl, rfl⟩ := hq
      exact j_vl (tX12_play_215 C L83 LP83 hL83 x1 x3 (FX12_step x5 h) hP hR) ⟨rfl, rfl, rfl, trivial⟩
    · have hP := hP.1 c1
      rw [if_pos c1] at hR
      refine j_aload_n C dX12_play_189 rfl rfl ?_
      refine j_aload_n C dX12_play_190 rfl rfl ?_
      refine j_iconst (v := 0) C dX12_play_191 (by decide) ?_
      obtain ⟨p3, hP⟩ := hP
      refine j_callV C (MX12_free 0 h p3) dX12_play_192 (CKX12_free (by decide)) ⟨rfl, rfl⟩ lk_RX12_282 in_X12_free se_X12_free (by decide) rfl rfl rfl (Nat.le_of_ble_eq_true rfl) ?_
      intro r S' h' hq
      obtain ⟨rfl, hh, rfl⟩ := hq
      rw [hh]
      refine j_if_lt (tgt := 202) C dX12_play_195 (by decide) (fun c2 => ?_) (fun c2 => ?_)
      · have hP := hP.1 c2
        rw [if_pos c2] at hR
        refine j_iconst (v := 0) C dX12_play_202 (by decide) ?_
        exact j_vl (tX12_play_203 C L83 LP83 hL83 x1 x3 0 h hP hR) ⟨rfl, rfl, rfl, trivial⟩
      · have hP := hP.2 c2
        rw [if_neg c2] at hR
        refine j_iconst (v := 4) C dX12_play_198 (by decide) ?_
        refine j_goto (tgt := 203) C dX12_play_199 (by decide) ?_
        exact j_vl (tX12_play_203 C L83 LP83 hL83 x1 x3 4 h hP hR) ⟨rfl, rfl, rfl, trivial⟩
  · have hP := hP.2 c0
    rw [if_neg c0] at hR
    refine j_aload_n C dX12_play_171 rfl rfl ?_
    refine j_iconst (v := 0) C dX12_play_172 (by decide) ?_
    refine pM_130 C dX12_play_173 ?_
    refine j_goto (tgt := 242) C dX12_play_176 (by decide) ?_
    exact j_vl (tX12_play_242 C L83 LP83 hL83 x1 x3 (hs h 0 66 0) hP hR) ⟨rfl, rfl, rfl, trivial⟩
def FX12_play_132 (L83 : Int32 → Int32 → ph_H → Int32 × ph_H) (x1 : Int32) (x3 : Int32) (x4 : Int32) (s0 : Int32) (h : ph_H) : Int32 × ph_H := if x4 = 0 then (FX12_play_166 L83 x1 x3 s0 h) else (if 300 ≤ (h 0 24) then (FX12_play_166 L83 x1 x3 s0 h) else (if (FX12_canGo s0 h) = 0 then (FX12_play_242 L83 x1 x3 (hs h 0 66 1)) else (FX12_play_166 L83 x1 x3 s0 h)))
def PX12_play_132 (LP83 : Int32 → Int32 → ph_H → Prop) (x1 : Int32) (x3 : Int32) (x4 : Int32) (s0 : Int32) (h : ph_H) : Prop := (x4 = 0 → (PX12_play_166 LP83 x1 x3 s0 h)) ∧ (¬ x4 = 0 → ((300 ≤ (h 0 24) → (PX12_play_166 LP83 x1 x3 s0 h)) ∧ (¬ 300 ≤ (h 0 24) → ((PX12_canGo s0 h) ∧ (((FX12_canGo s0 h) = 0 → (PX12_play_242 LP83 x1 x3 (hs h 0 66 1))) ∧ (¬ (FX12_canGo s0 h) = 0 → (PX12_play_166 LP83 x1 x3 s0 h)))))))
set_option maxRecDepth 100000 in
set_option maxHeartbeats 4000000 in
theorem tX12_play_132 {X : fj_X} {Y : fj_Y} {l0 : Launch} {ad : Nat → Nat} (C : FC X Y l0 cX12_play 6 RX12 ({ frames := 4, cells := 0, slots := 0, locals := 100 } : Room) 0 0 (some .int)) (L83 : Int32 → Int32 → ph_H → Int32 × ph_H) (LP83 : Int32 → Int32 → ph_H → Prop) (hL83 : ∀ (x1 : Int32) (x3 : Int32) (h : ph_H), LP83 x1 x3 h → RETi X Y ad 50 SM cX12_play (L83 x1 x3 h) → FJ X Y ad 50 SM h 83 [(0, .ref (ad 0)), (1, .int x1), (3, .int x3)] []) (x1 : Int32) (x3 : Int32) (x4 : Int32) (s0 : Int32) (h : ph_H) (hP : PX12_play_132 LP83 x1 x3 x4 s0 h) (hR : RETi X Y ad 50 SM cX12_play (FX12_play_132 L83 x1 x3 x4 s0 h)) : FJ X Y ad 50 SM h 132 [(0, .ref (ad 0)), (1, .int x1), (3, .int x3), (4, .int x4)] [.int s0] := by
  unfold PX12_play_132 at hP
  unfold FX12_play_132 at hR
  refine j_istore C dX12_play_132 (by decide) rfl ?_
  refine j_iload C dX12_play_134 rfl ?_
  refine j_if_eq (tgt := 166) C dX12_play_136 (by decide) (fun c0 => ?_) (fun c0 => ?_)
  · have hP := hP.1 c0
    rw [if_pos c0] at hR
    exact j_vl (tX12_play_166 C L83 LP83 hL83 x1 x3 s0 h hP hR) ⟨rfl, rfl, rfl, rfl, trivial⟩
  · have hP := hP.2 c0
    rw [if_neg c0] at hR
    refine j_aload_n C dX12_play_139 rfl rfl ?_
    refine gM_191 (v := (h 0 24)) C dX12_play_140 rfl ?_
    refine j_sipush (v := 300) C dX12_play_143 (by decide) ?_
    refine j_icmp_ge (tgt := 166) C dX12_play_146 (by decide) (fun c1 => ?_) (fun c1 => ?_)
    · have hP := hP.1 c1
      rw [if_pos c1] at hR
      exact j_vl (tX12_play_166 C L83 LP83 hL83 x1 x3 s0 h hP hR) ⟨rfl, rfl, rfl, rfl, trivial⟩
    · have hP := hP.2 c1
      rw [if_neg c1] at hR
      refine j_aload_n C dX12_play_149 rfl rfl ?_
      refine j_iload C dX12_play_150 rfl ?_
      obtain ⟨p2, hP⟩ := hP
      refine j_callV C (MX12_canGo s0 h p2) dX12_play_152 (CKX12_canGo (by decide)) ⟨rfl, rfl⟩ lk_RX12_215 in_X12_canGo se_X12_canGo (by decide) rfl rfl rfl (Nat.le_of_ble_eq_true rfl) ?_
      intro r S' h' hq
      obtain ⟨rfl, hh, rfl, hb4⟩ := hq
      rw [hh]
      refine j_if_ne (tgt := 166) C dX12_play_155 (by decide) (fun c2 => ?_) (fun c2 => ?_)
      · have hP := hP.2 c2
        rw [if_neg c2] at hR
        exact j_vl (tX12_play_166 C L83 LP83 hL83 x1 x3 s0 h hP hR) ⟨rfl, rfl, rfl, rfl, trivial⟩
      · have hP := hP.1 c2
        rw [if_pos c2] at hR
        refine j_aload_n C dX12_play_158 rfl rfl ?_
        refine j_iconst (v := 1) C dX12_play_159 (by decide) ?_
        refine pM_130 C dX12_play_160 ?_
        refine j_goto (tgt := 242) C dX12_play_163 (by decide) ?_
        exact j_vl (tX12_play_242 C L83 LP83 hL83 x1 x3 (hs h 0 66 1) hP hR) ⟨rfl, rfl, rfl, trivial⟩
def FX12_play_103 (L83 : Int32 → Int32 → ph_H → Int32 × ph_H) (x1 : Int32) (x3 : Int32) (s0 : Int32) (h : ph_H) : Int32 × ph_H := if s0 = 0 then (FX12_play_132 L83 x1 x3 s0 (FX12_free (h 0 26) h) h) else (FX12_play_132 L83 x1 x3 s0 (FX12_toldThread x1 ((h 0 24) + 1) h) h)
def PX12_play_103 (LP83 : Int32 → Int32 → ph_H → Prop) (x1 : Int32) (x3 : Int32) (s0 : Int32) (h : ph_H) : Prop := (s0 = 0 → ((PX12_free (h 0 26) h) ∧ (PX12_play_132 LP83 x1 x3 s0 (FX12_free (h 0 26) h) h))) ∧ (¬ s0 = 0 → ((PX12_toldThread x1 ((h 0 24) + 1) h) ∧ (PX12_play_132 LP83 x1 x3 s0 (FX12_toldThread x1 ((h 0 24) + 1) h) h)))
set_option maxRecDepth 100000 in
set_option maxHeartbeats 4000000 in
theorem tX12_play_103 {X : fj_X} {Y : fj_Y} {l0 : Launch} {ad : Nat → Nat} (C : FC X Y l0 cX12_play 6 RX12 ({ frames := 4, cells := 0, slots := 0, locals := 100 } : Room) 0 0 (some .int)) (L83 : Int32 → Int32 → ph_H → Int32 × ph_H) (LP83 : Int32 → Int32 → ph_H → Prop) (hL83 : ∀ (x1 : Int32) (x3 : Int32) (h : ph_H), LP83 x1 x3 h → RETi X Y ad 50 SM cX12_play (L83 x1 x3 h) → FJ X Y ad 50 SM h 83 [(0, .ref (ad 0)), (1, .int x1), (3, .int x3)] []) (x1 : Int32) (x3 : Int32) (s0 : Int32) (h : ph_H) (hP : PX12_play_103 LP83 x1 x3 s0 h) (hR : RETi X Y ad 50 SM cX12_play (FX12_play_103 L83 x1 x3 s0 h)) : FJ X Y ad 50 SM h 103 [(0, .ref (ad 0)), (1, .int x1), (3, .int x3)] [.int s0] := by
  unfold PX12_play_103 at hP
  unfold FX12_play_103 at hR
  refine j_istore C dX12_play_103 (by decide) rfl ?_
  refine j_iload C dX12_play_105 rfl ?_
  refine j_if_eq (tgt := 124) C dX12_play_107 (by decide) (fun c0 => ?_) (fun c0 => ?_)
  · have hP := hP.1 c0
    rw [if_pos c0] at hR
    refine j_aload_n C dX12_play_124 rfl rfl ?_
    refine j_aload_n C dX12_play_125 rfl rfl ?_
    refine gM_197 (v := (h 0 26)) C dX12_play_126 rfl ?_
    obtain ⟨p3, hP⟩ := hP
    refine j_callV C (MX12_free (h 0 26) h p3) dX12_play_129 (CKX12_free (by decide)) ⟨rfl, rfl⟩ lk_RX12_282 in_X12_free se_X12_free (by decide) rfl rfl rfl (Nat.le_of_ble_eq_true rfl) ?_
    intro r S' h' hq
    obtain ⟨rfl, hh, rfl⟩ := hq
    rw [hh]
    exact j_vl (tX12_play_132 C L83 LP83 hL83 x1 x3 s0 (FX12_free (h 0 26) h) h hP hR) ⟨rfl, rfl, rfl, rfl, trivial⟩
  · have hP := hP.2 c0
    rw [if_neg c0] at hR
    refine j_aload_n C dX12_play_110 rfl rfl ?_
    refine j_iload_n C dX12_play_111 rfl rfl ?_
    refine j_aload_n C dX12_play_112 rfl rfl ?_
    refine gM_191 (v := (h 0 24)) C dX12_play_113 rfl ?_
    refine j_iconst (v := 1) C dX12_play_116 (by decide) ?_
    refine j_iadd C dX12_play_117 ?_
    obtain ⟨p6, hP⟩ := hP
    refine j_callV C (MX12_toldThread x1 ((h 0 24) + 1) h p6) dX12_play_118 (CKX12_toldThread (by decide)) ⟨rfl, rfl⟩ lk_RX12_319 in_X12_toldThread se_X12_toldThread (by decide) rfl rfl rfl (Nat.le_of_ble_eq_true rfl) ?_
    intro r S' h' hq
    obtain ⟨rfl, hh, rfl⟩ := hq
    rw [hh]
    refine j_goto (tgt := 132) C dX12_play_121 (by decide) ?_
    exact j_vl (tX12_play_132 C L83 LP83 hL83 x1 x3 s0 (FX12_toldThread x1 ((h 0 24) + 1) h) h hP hR) ⟨rfl, rfl, rfl, rfl, trivial⟩
def FX12_play_83  : Nat → Int32 → Int32 → ph_H → Int32 × ph_H
  | 0, _, _, h => (0, h)
  | q + 1, x1, x3, h => if 0 ≤ (h 0 66) then (((h 0 24), (hs h 0 33 0))) else (if x3 ≤ (h 0 24) then (FX12_play_103 (FX12_play_83  q) x1 x3 0 h) else (FX12_play_103 (FX12_play_83  q) x1 x3 1 h))
def PX12_play_83  : Nat → Int32 → Int32 → ph_H → Prop
  | 0, _, _, _ => False
  | q + 1, x1, x3, h => (0 ≤ (h 0 66) → (True)) ∧ (¬ 0 ≤ (h 0 66) → ((x3 ≤ (h 0 24) → (PX12_play_103 (PX12_play_83  q) x1 x3 0 h)) ∧ (¬ x3 ≤ (h 0 24) → (PX12_play_103 (PX12_play_83  q) x1 x3 1 h))))
set_option maxRecDepth 100000 in
set_option maxHeartbeats 4000000 in
theorem tX12_play_83 {X : fj_X} {Y : fj_Y} {l0 : Launch} {ad : Nat → Nat} (C : FC X Y l0 cX12_play 6 RX12 ({ frames := 4, cells := 0, slots := 0, locals := 100 } : Room) 0 0 (some .int)) : ∀ (q : Nat) (x1 : Int32) (x3 : Int32) (h : ph_H), PX12_play_83  q x1 x3 h → RETi X Y ad 50 SM cX12_play (FX12_play_83  q x1 x3 h) → FJ X Y ad 50 SM h 83 [(0, .ref (ad 0)), (1, .int x1), (3, .int x3)] [] := by
  intro q
  induction q with
  | zero =>
    intro x1 x3 h hP hR
    exact absurd hP id
  | succ q ih =>
    intro x1 x3 h hP hR
    unfold PX12_play_83 at hP
    unfold FX12_play_83 at hR
    refine j_aload_n C dX12_play_83 rfl rfl ?_
    refine gM_130 (v := (h 0 66)) C dX12_play_84 rfl ?_
    refine j_if_ge (tgt := 245) C dX12_play_87 (by decide) (fun c0 => ?_) (fun c0 => ?_)
    · have hP := hP.1 c0
      rw [if_pos c0] at hR
      refine j_aload_n C dX12_play_245 rfl rfl ?_
      refine j_iconst (v := 0) C dX12_play_246 (by decide) ?_
      refine pM_218 C dX12_play_247 bo_0 ?_
      refine j_aload_n C dX12_play_250 rfl rfl ?_
      refine gM_191 (v := (h 0 24)) C dX12_play_251 (hz_i (by decide)) ?_
      exact hR _ _ dX12_play_254
    · have hP := hP.2 c0
      rw [if_neg c0] at hR
      refine j_aload_n C dX12_play_90 rfl rfl ?_
      refine gM_191 (v := (h 0 24)) C dX12_play_91 rfl ?_
      refine j_iload_n C dX12_play_94 rfl rfl ?_
      refine j_icmp_ge (tgt := 102) C dX12_play_95 (by decide) (fun c1 => ?_) (fun c1 => ?_)
      · have hP := hP.1 c1
        rw [if_pos c1] at hR
        refine j_iconst (v := 0) C dX12_play_102 (by decide) ?_
        exact j_vl (tX12_play_103 C (FX12_play_83  q) (PX12_play_83  q) (ih) x1 x3 0 h hP hR) ⟨rfl, rfl, rfl, trivial⟩
      · have hP := hP.2 c1
        rw [if_neg c1] at hR
        refine j_iconst (v := 1) C dX12_play_98 (by decide) ?_
        refine j_goto (tgt := 103) C dX12_play_99 (by decide) ?_
        exact j_vl (tX12_play_103 C (FX12_play_83  q) (PX12_play_83  q) (ih) x1 x3 1 h hP hR) ⟨rfl, rfl, rfl, trivial⟩
def FX12_play_82  (x1 : Int32) (s0 : Int32) (h : ph_H) : Int32 × ph_H := FX12_play_83 2000 x1 s0 h
def PX12_play_82  (x1 : Int32) (s0 : Int32) (h : ph_H) : Prop := PX12_play_83 2000 x1 s0 h
set_option maxRecDepth 100000 in
set_option maxHeartbeats 4000000 in
theorem tX12_play_82 {X : fj_X} {Y : fj_Y} {l0 : Launch} {ad : Nat → Nat} (C : FC X Y l0 cX12_play 6 RX12 ({ frames := 4, cells := 0, slots := 0, locals := 100 } : Room) 0 0 (some .int)) (x1 : Int32) (s0 : Int32) (h : ph_H) (hP : PX12_play_82  x1 s0 h) (hR : RETi X Y ad 50 SM cX12_play (FX12_play_82  x1 s0 h)) : FJ X Y ad 50 SM h 82 [(0, .ref (ad 0)), (1, .int x1)] [.int s0] := by
  unfold PX12_play_82 at hP
  unfold FX12_play_82 at hR
  refine j_istore_n C dX12_play_82 rfl (by decide) rfl ?_
  exact j_vl (tX12_play_83 C 2000 x1 s0 h hP hR) ⟨rfl, rfl, rfl, trivial⟩
def FX12_play_59  (x1 : Int32) (h : ph_H) : Int32 × ph_H := if x1 = 0 then (FX12_play_82  x1 0 (hs h 0 66 (-1))) else (FX12_play_82  x1 ((h 37 ((x1 - 1).toNatClampNeg)) + 1) (hs h 0 66 (-1)))
def PX12_play_59  (x1 : Int32) (h : ph_H) : Prop := (x1 = 0 → (PX12_play_82  x1 0 (hs h 0 66 (-1)))) ∧ (¬ x1 = 0 → (vp_in (x1 - 1) 301 ∧ (PX12_play_82  x1 ((h 37 ((x1 - 1).toNatClampNeg)) + 1) (hs h 0 66 (-1)))))
set_option maxRecDepth 100000 in
set_option maxHeartbeats 4000000 in
theorem tX12_play_59 {X : fj_X} {Y : fj_Y} {l0 : Launch} {ad : Nat → Nat} (C : FC X Y l0 cX12_play 6 RX12 ({ frames := 4, cells := 0, slots := 0, locals := 100 } : Room) 0 0 (some .int)) (x1 : Int32) (h : ph_H) (hP : PX12_play_59  x1 h) (hR : RETi X Y ad 50 SM cX12_play (FX12_play_59  x1 h)) : FJ X Y ad 50 SM h 59 [(0, .ref (ad 0)), (1, .int x1)] [] := by
  unfold PX12_play_59 at hP
  unfold FX12_play_59 at hR
  refine j_aload_n C dX12_play_59 rfl rfl ?_
  refine j_iconst (v := (-1)) C dX12_play_60 (by decide) ?_
  refine pM_130 C dX12_play_61 ?_
  refine j_iload_n C dX12_play_64 rfl rfl ?_
  refine j_if_ne (tgt := 72) C dX12_play_65 (by decide) (fun c0 => ?_) (fun c0 => ?_)
  · have hP := hP.2 c0
    rw [if_neg c0] at hR
    refine j_aload_n C dX12_play_72 rfl rfl ?_
    refine gM_120 C dX12_play_73 ?_
    refine j_iload_n C dX12_play_76 rfl rfl ?_
    refine j_iconst (v := 1) C dX12_play_77 (by decide) ?_
    refine j_isub C dX12_play_78 ?_
    obtain ⟨p5, hP⟩ := hP
    refine j_iald (k := 37) (v := (h 37 ((x1 - 1).toNatClampNeg))) C dX12_play_79 (by decide) rfl p5 (hz_k (by decide)) ?_
    refine j_iconst (v := 1) C dX12_play_80 (by decide) ?_
    refine j_iadd C dX12_play_81 ?_
    exact j_vl (tX12_play_82 C  x1 ((h 37 ((x1 - 1).toNatClampNeg)) + 1) (hs h 0 66 (-1)) hP hR) ⟨rfl, rfl, trivial⟩
  · have hP := hP.1 c0
    rw [if_pos c0] at hR
    refine j_iconst (v := 0) C dX12_play_68 (by decide) ?_
    refine j_goto (tgt := 82) C dX12_play_69 (by decide) ?_
    exact j_vl (tX12_play_82 C  x1 0 (hs h 0 66 (-1)) hP hR) ⟨rfl, rfl, trivial⟩
def FX12_play (a0 : Int32) (a1 : Int32) (h : ph_H) : Int32 × ph_H := if (h 0 36) = 0 then (((-2), (hs h 0 0 0))) else (if (FX12_isIn a0.toInt64 0 ((h 0 60).toInt64)) = 0 then (((-1), (hs h 0 0 0))) else (if (FX12_isIn a1.toInt64 0 ((h 0 41).toInt64)) = 0 then (((-1), (hs h 0 0 0))) else (FX12_play_59  a0 (FX12_begin (hs (hs (hs h 0 0 0) 0 33 1) 0 34 a1)))))
def PX12_play (a0 : Int32) (a1 : Int32) (h : ph_H) : Prop := ((h 0 36) = 0 → (True)) ∧ (¬ (h 0 36) = 0 → ((PX12_isIn a0.toInt64 0 ((h 0 60).toInt64)) ∧ (((FX12_isIn a0.toInt64 0 ((h 0 60).toInt64)) = 0 → (True)) ∧ (¬ (FX12_isIn a0.toInt64 0 ((h 0 60).toInt64)) = 0 → ((PX12_isIn a1.toInt64 0 ((h 0 41).toInt64)) ∧ (((FX12_isIn a1.toInt64 0 ((h 0 41).toInt64)) = 0 → (True)) ∧ (¬ (FX12_isIn a1.toInt64 0 ((h 0 41).toInt64)) = 0 → ((PX12_begin (hs (hs (hs h 0 0 0) 0 33 1) 0 34 a1)) ∧ (PX12_play_59  a0 (FX12_begin (hs (hs (hs h 0 0 0) 0 33 1) 0 34 a1)))))))))))
set_option maxRecDepth 100000 in
set_option maxHeartbeats 4000000 in
theorem tX12_play {X : fj_X} {Y : fj_Y} {l0 : Launch} {ad : Nat → Nat} (C : FC X Y l0 cX12_play 6 RX12 ({ frames := 4, cells := 0, slots := 0, locals := 100 } : Room) 0 0 (some .int)) (a0 : Int32) (a1 : Int32) (h : ph_H) (hP : PX12_play a0 a1 h) (hR : RETi X Y ad 50 SM cX12_play (FX12_play a0 a1 h)) : FJ X Y ad 50 SM h 0 [(0, .ref (ad 0)), (1, .int a0), (2, .int a1)] [] := by
  unfold PX12_play at hP
  unfold FX12_play at hR
  refine j_aload_n C dX12_play_0 rfl rfl ?_
  refine j_iconst (v := 0) C dX12_play_1 (by decide) ?_
  refine pM_164 C dX12_play_2 ?_
  refine j_aload_n C dX12_play_5 rfl rfl ?_
  refine gM_294 (v := (h 0 36)) C dX12_play_6 (hz_i (by decide)) ?_
  refine j_if_ne (tgt := 15) C dX12_play_9 (by decide) (fun c0 => ?_) (fun c0 => ?_)
  · have hP := hP.2 c0
    rw [if_neg c0] at hR
    refine j_iload_n C dX12_play_15 rfl rfl ?_
    refine j_i2l C dX12_play_16 ?_
    refine j_lconst (v := 0) C dX12_play_17 (by decide) ?_
    refine j_aload_n C dX12_play_18 rfl rfl ?_
    refine gM_272 (v := (h 0 60)) C dX12_play_19 (hz_i (by decide)) ?_
    refine j_i2l C dX12_play_22 ?_
    obtain ⟨p6, hP⟩ := hP
    refine j_callS C (MX12_isIn a0.toInt64 0 ((h 0 60).toInt64) (hs h 0 0 0) p6) dX12_play_23 (CKX12_isIn (by decide)) ⟨rfl, rfl⟩ lk_RX12_169 st_X12_isIn rfl (Nat.le_of_ble_eq_true rfl) ?_
    intro r S' h' hq
    obtain ⟨rfl, hh, rfl, hb8⟩ := hq
    rw [hh]
    refine j_if_eq (tgt := 43) C dX12_play_26 (by decide) (fun c1 => ?_) (fun c1 => ?_)
    · have hP := hP.1 c1
      rw [if_pos c1] at hR
      refine j_iconst (v := (-1)) C dX12_play_43 (by decide) ?_
      exact hR _ _ dX12_play_44
    · have hP := hP.2 c1
      rw [if_neg c1] at hR
      refine j_iload_n C dX12_play_29 rfl rfl ?_
      refine j_i2l C dX12_play_30 ?_
      refine j_lconst (v := 0) C dX12_play_31 (by decide) ?_
      refine j_aload_n C dX12_play_32 rfl rfl ?_
      refine gM_313 (v := (h 0 41)) C dX12_play_33 (hz_i (by decide)) ?_
      refine j_i2l C dX12_play_36 ?_
      obtain ⟨p6, hP⟩ := hP
      refine j_callS C (MX12_isIn a1.toInt64 0 ((h 0 41).toInt64) (hs h 0 0 0) p6) dX12_play_37 (CKX12_isIn (by decide)) ⟨rfl, rfl⟩ lk_RX12_169 st_X12_isIn rfl (Nat.le_of_ble_eq_true rfl) ?_
      intro r S' h' hq
      obtain ⟨rfl, hh, rfl, hb8⟩ := hq
      rw [hh]
      refine j_if_ne (tgt := 45) C dX12_play_40 (by decide) (fun c2 => ?_) (fun c2 => ?_)
      · have hP := hP.2 c2
        rw [if_neg c2] at hR
        refine j_aload_n C dX12_play_45 rfl rfl ?_
        refine j_iconst (v := 1) C dX12_play_46 (by decide) ?_
        refine pM_218 C dX12_play_47 bo_1 ?_
        refine j_aload_n C dX12_play_50 rfl rfl ?_
        refine j_iload_n C dX12_play_51 rfl rfl ?_
        refine pM_250 C dX12_play_52 ?_
        refine j_aload_n C dX12_play_55 rfl rfl ?_
        obtain ⟨p7, hP⟩ := hP
        refine j_callVv C (MX12_begin (hs (hs (hs h 0 0 0) 0 33 1) 0 34 a1) p7) dX12_play_56 (CKX12_begin (by decide)) ⟨rfl, rfl⟩ lk_RX12_285 in_X12_begin se_X12_begin (by decide) rfl rfl rfl (Nat.le_of_ble_eq_true rfl) ?_
        intro S' h' hq
        obtain ⟨rfl, rfl⟩ := hq
        exact j_vl (tX12_play_59 C  a0 (FX12_begin (hs (hs (hs h 0 0 0) 0 33 1) 0 34 a1)) hP hR) ⟨rfl, rfl, trivial⟩
      · have hP := hP.1 c2
        rw [if_pos c2] at hR
        refine j_iconst (v := (-1)) C dX12_play_43 (by decide) ?_
        exact hR _ _ dX12_play_44
  · have hP := hP.1 c0
    rw [if_pos c0] at hR
    refine j_bipush (v := (-2)) C dX12_play_12 (by decide) ?_
    exact hR _ _ dX12_play_14
theorem MX12_play {l0 : Launch} {Y : fj_Y} {ad : Nat → Nat} (a0 : Int32) (a1 : Int32) (h : ph_H) (hP : PX12_play a0 a1 h) : MI l0 yX12_play cX12_play 6 (some .int) ({ frames := 4, cells := 0, slots := 0, locals := 100 } : Room) Y ad 50 SM h [.ref (ad 0), .int a0, .int a1] (fun r S' h' => S' = SM ∧ h' = (FX12_play a0 a1 h).2 ∧ r = (FX12_play a0 a1 h).1) := met_i (by decide) (Nat.le_of_ble_eq_true rfl) (fun _ _ _ _ => rfl) (fun X C K => j_vl (tX12_play C a0 a1 h hP (fun pc lv hd => K _ _ _ ⟨rfl, rfl, rfl⟩ pc lv hd)) ⟨rfl, rfl, rfl, trivial⟩)
end MG_08_m04
section MG_08_m05
-- X12_ended
def FX12_ended (h : ph_H) : Int32 × ph_H := ((h 0 66), (hs h 0 0 0))
def PX12_ended (h : ph_H) : Prop := True
set_option maxRecDepth 100000 in
set_option maxHeartbeats 4000000 in
theorem tX12_ended {X : fj_X} {Y : fj_Y} {l0 : Launch} {ad : Nat → Nat} (C : FC X Y l0 cX12_ended 1 RX12 ({ frames := 0, cells := 0, slots := 0, locals := 0 } : Room) 0 0 (some .int)) (h : ph_H) (hP : PX12_ended h) (hR : RETi X Y ad 50 SM cX12_ended (FX12_ended h)) : FJ X Y ad 50 SM h 0 [(0, .ref (ad 0))] [] := by
  unfold PX12_ended at hP
  unfold FX12_ended at hR
  refine j_aload_n C dX12_ended_0 rfl rfl ?_
  refine j_iconst (v := 0) C dX12_ended_1 (by decide) ?_
  refine pM_164 C dX12_ended_2 ?_
  refine j_aload_n C dX12_ended_5 rfl rfl ?_
  refine gM_130 (v := (h 0 66)) C dX12_ended_6 (hz_i (by decide)) ?_
  exact hR _ _ dX12_ended_9
theorem MX12_ended {l0 : Launch} {Y : fj_Y} {ad : Nat → Nat} (h : ph_H) (hP : PX12_ended h) : MI l0 yX12_ended cX12_ended 1 (some .int) ({ frames := 0, cells := 0, slots := 0, locals := 0 } : Room) Y ad 50 SM h [.ref (ad 0)] (fun r S' h' => S' = SM ∧ h' = (FX12_ended h).2 ∧ r = (FX12_ended h).1) := met_i (by decide) (Nat.le_of_ble_eq_true rfl) (fun _ _ _ _ => rfl) (fun X C K => j_vl (tX12_ended C h hP (fun pc lv hd => K _ _ _ ⟨rfl, rfl, rfl⟩ pc lv hd)) ⟨rfl, trivial⟩)

-- X12_to
def FX12_to (a0 : Int32) (h : ph_H) : Int32 × ph_H := if (h 0 36) = 0 then (((-2), (hs h 0 0 0))) else (if (FX12_isIn a0.toInt64 0 ((h 0 38).toInt64)) = 0 then (((-1), (hs h 0 0 0))) else ((a0, (hs (hs h 0 0 0) 0 42 a0))))
def PX12_to (a0 : Int32) (h : ph_H) : Prop := ((h 0 36) = 0 → (True)) ∧ (¬ (h 0 36) = 0 → ((PX12_isIn a0.toInt64 0 ((h 0 38).toInt64)) ∧ (((FX12_isIn a0.toInt64 0 ((h 0 38).toInt64)) = 0 → (True)) ∧ (¬ (FX12_isIn a0.toInt64 0 ((h 0 38).toInt64)) = 0 → (True)))))
set_option maxRecDepth 100000 in
set_option maxHeartbeats 4000000 in
theorem tX12_to {X : fj_X} {Y : fj_Y} {l0 : Launch} {ad : Nat → Nat} (C : FC X Y l0 cX12_to 2 RX12 ({ frames := 1, cells := 0, slots := 0, locals := 25 } : Room) 0 0 (some .int)) (a0 : Int32) (h : ph_H) (hP : PX12_to a0 h) (hR : RETi X Y ad 50 SM cX12_to (FX12_to a0 h)) : FJ X Y ad 50 SM h 0 [(0, .ref (ad 0)), (1, .int a0)] [] := by
  unfold PX12_to at hP
  unfold FX12_to at hR
  refine j_aload_n C dX12_to_0 rfl rfl ?_
  refine j_iconst (v := 0) C dX12_to_1 (by decide) ?_
  refine pM_164 C dX12_to_2 ?_
  refine j_aload_n C dX12_to_5 rfl rfl ?_
  refine gM_294 (v := (h 0 36)) C dX12_to_6 (hz_i (by decide)) ?_
  refine j_if_ne (tgt := 15) C dX12_to_9 (by decide) (fun c0 => ?_) (fun c0 => ?_)
  · have hP := hP.2 c0
    rw [if_neg c0] at hR
    refine j_iload_n C dX12_to_15 rfl rfl ?_
    refine j_i2l C dX12_to_16 ?_
    refine j_lconst (v := 0) C dX12_to_17 (by decide) ?_
    refine j_aload_n C dX12_to_18 rfl rfl ?_
    refine gM_304 (v := (h 0 38)) C dX12_to_19 (hz_i (by decide)) ?_
    refine j_i2l C dX12_to_22 ?_
    obtain ⟨p6, hP⟩ := hP
    refine j_callS C (MX12_isIn a0.toInt64 0 ((h 0 38).toInt64) (hs h 0 0 0) p6) dX12_to_23 (CKX12_isIn (by decide)) ⟨rfl, rfl⟩ lk_RX12_169 st_X12_isIn rfl (Nat.le_of_ble_eq_true rfl) ?_
    intro r S' h' hq
    obtain ⟨rfl, hh, rfl, hb8⟩ := hq
    rw [hh]
    refine j_if_ne (tgt := 31) C dX12_to_26 (by decide) (fun c1 => ?_) (fun c1 => ?_)
    · have hP := hP.2 c1
      rw [if_neg c1] at hR
      refine j_aload_n C dX12_to_31 rfl rfl ?_
      refine j_iload_n C dX12_to_32 rfl rfl ?_
      refine pM_316 C dX12_to_33 ?_
      refine j_iload_n C dX12_to_36 rfl rfl ?_
      exact hR _ _ dX12_to_37
    · have hP := hP.1 c1
      rw [if_pos c1] at hR
      refine j_iconst (v := (-1)) C dX12_to_29 (by decide) ?_
      exact hR _ _ dX12_to_30
  · have hP := hP.1 c0
    rw [if_pos c0] at hR
    refine j_bipush (v := (-2)) C dX12_to_12 (by decide) ?_
    exact hR _ _ dX12_to_14
theorem MX12_to {l0 : Launch} {Y : fj_Y} {ad : Nat → Nat} (a0 : Int32) (h : ph_H) (hP : PX12_to a0 h) : MI l0 yX12_to cX12_to 2 (some .int) ({ frames := 1, cells := 0, slots := 0, locals := 25 } : Room) Y ad 50 SM h [.ref (ad 0), .int a0] (fun r S' h' => S' = SM ∧ h' = (FX12_to a0 h).2 ∧ r = (FX12_to a0 h).1) := met_i (by decide) (Nat.le_of_ble_eq_true rfl) (fun _ _ _ _ => rfl) (fun X C K => j_vl (tX12_to C a0 h hP (fun pc lv hd => K _ _ _ ⟨rfl, rfl, rfl⟩ pc lv hd)) ⟨rfl, rfl, trivial⟩)

-- X12_back
def FX12_back (a0 : Int32) (h : ph_H) : Int32 × ph_H := if (h 0 36) = 0 then (((-2), (hs h 0 0 0))) else (if a0 < 0 then (((-1), (hs h 0 0 0))) else (if a0 ≤ (h 0 42) then ((((h 0 42) - a0), (hs (hs h 0 0 0) 0 42 ((h 0 42) - a0)))) else (((-1), (hs h 0 0 0)))))
def PX12_back (a0 : Int32) (h : ph_H) : Prop := ((h 0 36) = 0 → (True)) ∧ (¬ (h 0 36) = 0 → ((a0 < 0 → (True)) ∧ (¬ a0 < 0 → ((a0 ≤ (h 0 42) → (True)) ∧ (¬ a0 ≤ (h 0 42) → (True))))))
set_option maxRecDepth 100000 in
set_option maxHeartbeats 4000000 in
theorem tX12_back {X : fj_X} {Y : fj_Y} {l0 : Launch} {ad : Nat → Nat} (C : FC X Y l0 cX12_back 2 RX12 ({ frames := 0, cells := 0, slots := 0, locals := 0 } : Room) 0 0 (some .int)) (a0 : Int32) (h : ph_H) (hP : PX12_back a0 h) (hR : RETi X Y ad 50 SM cX12_back (FX12_back a0 h)) : FJ X Y ad 50 SM h 0 [(0, .ref (ad 0)), (1, .int a0)] [] := by
  unfold PX12_back at hP
  unfold FX12_back at hR
  refine j_aload_n C dX12_back_0 rfl rfl ?_
  refine j_iconst (v := 0) C dX12_back_1 (by decide) ?_
  refine pM_164 C dX12_back_2 ?_
  refine j_aload_n C dX12_back_5 rfl rfl ?_
  refine gM_294 (v := (h 0 36)) C dX12_back_6 (hz_i (by decide)) ?_
  refine j_if_ne (tgt := 15) C dX12_back_9 (by decide) (fun c0 => ?_) (fun c0 => ?_)
  · have hP := hP.2 c0
    rw [if_neg c0] at hR
    refine j_iload_n C dX12_back_15 rfl rfl ?_
    refine j_if_lt (tgt := 27) C dX12_back_16 (by decide) (fun c1 => ?_) (fun c1 => ?_)
    · have hP := hP.1 c1
      rw [if_pos c1] at hR
      refine j_iconst (v := (-1)) C dX12_back_27 (by decide) ?_
      exact hR _ _ dX12_back_28
    · have hP := hP.2 c1
      rw [if_neg c1] at hR
      refine j_iload_n C dX12_back_19 rfl rfl ?_
      refine j_aload_n C dX12_back_20 rfl rfl ?_
      refine gM_316 (v := (h 0 42)) C dX12_back_21 (hz_i (by decide)) ?_
      refine j_icmp_le (tgt := 29) C dX12_back_24 (by decide) (fun c2 => ?_) (fun c2 => ?_)
      · have hP := hP.1 c2
        rw [if_pos c2] at hR
        refine j_aload_n C dX12_back_29 rfl rfl ?_
        refine j_dup C dX12_back_30 rfl ?_
        refine gM_316 (v := (h 0 42)) C dX12_back_31 (hz_i (by decide)) ?_
        refine j_iload_n C dX12_back_34 rfl rfl ?_
        refine j_isub C dX12_back_35 ?_
        refine pM_316 C dX12_back_36 ?_
        refine j_aload_n C dX12_back_39 rfl rfl ?_
        refine gM_316 (v := ((h 0 42) - a0)) C dX12_back_40 (hz_e) ?_
        exact hR _ _ dX12_back_43
      · have hP := hP.2 c2
        rw [if_neg c2] at hR
        refine j_iconst (v := (-1)) C dX12_back_27 (by decide) ?_
        exact hR _ _ dX12_back_28
  · have hP := hP.1 c0
    rw [if_pos c0] at hR
    refine j_bipush (v := (-2)) C dX12_back_12 (by decide) ?_
    exact hR _ _ dX12_back_14
theorem MX12_back {l0 : Launch} {Y : fj_Y} {ad : Nat → Nat} (a0 : Int32) (h : ph_H) (hP : PX12_back a0 h) : MI l0 yX12_back cX12_back 2 (some .int) ({ frames := 0, cells := 0, slots := 0, locals := 0 } : Room) Y ad 50 SM h [.ref (ad 0), .int a0] (fun r S' h' => S' = SM ∧ h' = (FX12_back a0 h).2 ∧ r = (FX12_back a0 h).1) := met_i (by decide) (Nat.le_of_ble_eq_true rfl) (fun _ _ _ _ => rfl) (fun X C K => j_vl (tX12_back C a0 h hP (fun pc lv hd => K _ _ _ ⟨rfl, rfl, rfl⟩ pc lv hd)) ⟨rfl, rfl, trivial⟩)

-- X12_value
def FX12_value_119  (x3 : Int32) (s0 : Int32) (s1 : Int32) (h : ph_H) : Int32 × ph_H := if x3 = 0 then (((h 20 ((s1 + s0).toNatClampNeg)), h)) else (((h 21 ((s1 + s0).toNatClampNeg)), h))
def PX12_value_119  (x3 : Int32) (s0 : Int32) (s1 : Int32) (h : ph_H) : Prop := (x3 = 0 → (vp_in (s1 + s0) 8428 ∧ (True))) ∧ (¬ x3 = 0 → (vp_in (s1 + s0) 8428 ∧ (True)))
set_option maxRecDepth 100000 in
set_option maxHeartbeats 4000000 in
theorem tX12_value_119 {X : fj_X} {Y : fj_Y} {l0 : Launch} {ad : Nat → Nat} (C : FC X Y l0 cX12_value 6 RX12 ({ frames := 1, cells := 0, slots := 0, locals := 25 } : Room) 0 0 (some .int)) (x3 : Int32) (s0 : Int32) (s1 : Int32) (h : ph_H) (hP : PX12_value_119  x3 s0 s1 h) (hR : RETi X Y ad 50 SM cX12_value (FX12_value_119  x3 s0 s1 h)) : FJ X Y ad 50 SM h 119 [(0, .ref (ad 0)), (3, .int x3)] [.int s0, .int s1] := by
  unfold PX12_value_119 at hP
  unfold FX12_value_119 at hR
  refine j_iadd C dX12_value_119 ?_
  refine j_istore C dX12_value_120 (by decide) rfl ?_
  refine j_iload_n C dX12_value_122 rfl rfl ?_
  refine j_if_ne (tgt := 136) C dX12_value_123 (by decide) (fun c0 => ?_) (fun c0 => ?_)
  · have hP := hP.2 c0
    rw [if_neg c0] at hR
    refine j_aload_n C dX12_value_136 rfl rfl ?_
    refine gM_71 C dX12_value_137 ?_
    refine j_iload C dX12_value_140 rfl ?_
    obtain ⟨p3, hP⟩ := hP
    refine j_iald (k := 21) (v := (h 21 ((s1 + s0).toNatClampNeg))) C dX12_value_142 (by decide) rfl p3 rfl ?_
    exact hR _ _ dX12_value_143
  · have hP := hP.1 c0
    rw [if_pos c0] at hR
    refine j_aload_n C dX12_value_126 rfl rfl ?_
    refine gM_68 C dX12_value_127 ?_
    refine j_iload C dX12_value_130 rfl ?_
    obtain ⟨p3, hP⟩ := hP
    refine j_iald (k := 20) (v := (h 20 ((s1 + s0).toNatClampNeg))) C dX12_value_132 (by decide) rfl p3 rfl ?_
    refine j_goto (tgt := 143) C dX12_value_133 (by decide) ?_
    exact hR _ _ dX12_value_143
def FX12_value_83  (x1 : Int32) (x2 : Int32) (x3 : Int32) (s0 : Int32) (h : ph_H) : Int32 × ph_H := if s0 ≤ 0 then (if x1 = (-1) then (FX12_value_119  x3 x2 (28 * (h 0 42)) (hs h 0 0 s0)) else (FX12_value_119  x3 ((12 + (4 * x1)) + x2) (28 * (h 0 42)) (hs h 0 0 s0))) else ((0, (hs h 0 0 s0)))
def PX12_value_83  (x1 : Int32) (x2 : Int32) (x3 : Int32) (s0 : Int32) (h : ph_H) : Prop := (s0 ≤ 0 → ((x1 = (-1) → (PX12_value_119  x3 x2 (28 * (h 0 42)) (hs h 0 0 s0))) ∧ (¬ x1 = (-1) → (PX12_value_119  x3 ((12 + (4 * x1)) + x2) (28 * (h 0 42)) (hs h 0 0 s0))))) ∧ (¬ s0 ≤ 0 → (True))
set_option maxRecDepth 100000 in
set_option maxHeartbeats 4000000 in
theorem tX12_value_83 {X : fj_X} {Y : fj_Y} {l0 : Launch} {ad : Nat → Nat} (C : FC X Y l0 cX12_value 6 RX12 ({ frames := 1, cells := 0, slots := 0, locals := 25 } : Room) 0 0 (some .int)) (x1 : Int32) (x2 : Int32) (x3 : Int32) (s0 : Int32) (h : ph_H) (hP : PX12_value_83  x1 x2 x3 s0 h) (hR : RETi X Y ad 50 SM cX12_value (FX12_value_83  x1 x2 x3 s0 h)) : FJ X Y ad 50 SM h 83 [(0, .ref (ad 0)), (1, .int x1), (2, .int x2), (3, .int x3)] [.int s0, .ref (ad 0)] := by
  unfold PX12_value_83 at hP
  unfold FX12_value_83 at hR
  refine pM_164 C dX12_value_83 ?_
  refine j_aload_n C dX12_value_86 rfl rfl ?_
  refine gM_164 (v := s0) C dX12_value_87 (hz_e) ?_
  refine j_if_le (tgt := 95) C dX12_value_90 (by decide) (fun c0 => ?_) (fun c0 => ?_)
  · have hP := hP.1 c0
    rw [if_pos c0] at hR
    refine j_bipush (v := 28) C dX12_value_95 (by decide) ?_
    refine j_aload_n C dX12_value_97 rfl rfl ?_
    refine gM_316 (v := (h 0 42)) C dX12_value_98 (hz_i (by decide)) ?_
    refine j_imul C dX12_value_101 ?_
    refine j_iload_n C dX12_value_102 rfl rfl ?_
    refine j_iconst (v := (-1)) C dX12_value_103 (by decide) ?_
    refine j_icmp_ne (tgt := 111) C dX12_value_104 (by decide) (fun c1 => ?_) (fun c1 => ?_)
    · have hP := hP.2 c1
      rw [if_neg c1] at hR
      refine j_bipush (v := 12) C dX12_value_111 (by decide) ?_
      refine j_iconst (v := 4) C dX12_value_113 (by decide) ?_
      refine j_iload_n C dX12_value_114 rfl rfl ?_
      refine j_imul C dX12_value_115 ?_
      refine j_iadd C dX12_value_116 ?_
      refine j_iload_n C dX12_value_117 rfl rfl ?_
      refine j_iadd C dX12_value_118 ?_
      exact j_vl (tX12_value_119 C  x3 ((12 + (4 * x1)) + x2) (28 * (h 0 42)) (hs h 0 0 s0) hP hR) ⟨rfl, rfl, trivial⟩
    · have hP := hP.1 c1
      rw [if_pos c1] at hR
      refine j_iload_n C dX12_value_107 rfl rfl ?_
      refine j_goto (tgt := 119) C dX12_value_108 (by decide) ?_
      exact j_vl (tX12_value_119 C  x3 x2 (28 * (h 0 42)) (hs h 0 0 s0) hP hR) ⟨rfl, rfl, trivial⟩
  · have hP := hP.2 c0
    rw [if_neg c0] at hR
    refine j_iconst (v := 0) C dX12_value_93 (by decide) ?_
    exact hR _ _ dX12_value_94
def FX12_value_59  (x1 : Int32) (x2 : Int32) (x3 : Int32) (s0 : Int32) (h : ph_H) : Int32 × ph_H := if (h 0 36) = 0 then (FX12_value_83  x1 x2 x3 2 h) else (if s0 = 0 then (FX12_value_83  x1 x2 x3 1 h) else (FX12_value_83  x1 x2 x3 0 h))
def PX12_value_59  (x1 : Int32) (x2 : Int32) (x3 : Int32) (s0 : Int32) (h : ph_H) : Prop := ((h 0 36) = 0 → (PX12_value_83  x1 x2 x3 2 h)) ∧ (¬ (h 0 36) = 0 → ((s0 = 0 → (PX12_value_83  x1 x2 x3 1 h)) ∧ (¬ s0 = 0 → (PX12_value_83  x1 x2 x3 0 h))))
set_option maxRecDepth 100000 in
set_option maxHeartbeats 4000000 in
theorem tX12_value_59 {X : fj_X} {Y : fj_Y} {l0 : Launch} {ad : Nat → Nat} (C : FC X Y l0 cX12_value 6 RX12 ({ frames := 1, cells := 0, slots := 0, locals := 25 } : Room) 0 0 (some .int)) (x1 : Int32) (x2 : Int32) (x3 : Int32) (s0 : Int32) (h : ph_H) (hP : PX12_value_59  x1 x2 x3 s0 h) (hR : RETi X Y ad 50 SM cX12_value (FX12_value_59  x1 x2 x3 s0 h)) : FJ X Y ad 50 SM h 59 [(0, .ref (ad 0)), (1, .int x1), (2, .int x2), (3, .int x3)] [.int s0] := by
  unfold PX12_value_59 at hP
  unfold FX12_value_59 at hR
  refine j_istore C dX12_value_59 (by decide) rfl ?_
  refine j_aload_n C dX12_value_61 rfl rfl ?_
  refine j_aload_n C dX12_value_62 rfl rfl ?_
  refine gM_294 (v := (h 0 36)) C dX12_value_63 rfl ?_
  refine j_if_ne (tgt := 73) C dX12_value_66 (by decide) (fun c0 => ?_) (fun c0 => ?_)
  · have hP := hP.2 c0
    rw [if_neg c0] at hR
    refine j_iload C dX12_value_73 rfl ?_
    refine j_if_eq (tgt := 82) C dX12_value_75 (by decide) (fun c1 => ?_) (fun c1 => ?_)
    · have hP := hP.1 c1
      rw [if_pos c1] at hR
      refine j_iconst (v := 1) C dX12_value_82 (by decide) ?_
      exact j_vl (tX12_value_83 C  x1 x2 x3 1 h hP hR) ⟨rfl, rfl, rfl, rfl, trivial⟩
    · have hP := hP.2 c1
      rw [if_neg c1] at hR
      refine j_iconst (v := 0) C dX12_value_78 (by decide) ?_
      refine j_goto (tgt := 83) C dX12_value_79 (by decide) ?_
      exact j_vl (tX12_value_83 C  x1 x2 x3 0 h hP hR) ⟨rfl, rfl, rfl, rfl, trivial⟩
  · have hP := hP.1 c0
    rw [if_pos c0] at hR
    refine j_iconst (v := 2) C dX12_value_69 (by decide) ?_
    refine j_goto (tgt := 83) C dX12_value_70 (by decide) ?_
    exact j_vl (tX12_value_83 C  x1 x2 x3 2 h hP hR) ⟨rfl, rfl, rfl, rfl, trivial⟩
def FX12_value_54  (x1 : Int32) (x2 : Int32) (x3 : Int32) (h : ph_H) : Int32 × ph_H := FX12_value_59  x1 x2 x3 1 h
def PX12_value_54  (x1 : Int32) (x2 : Int32) (x3 : Int32) (h : ph_H) : Prop := PX12_value_59  x1 x2 x3 1 h
set_option maxRecDepth 100000 in
set_option maxHeartbeats 4000000 in
theorem tX12_value_54 {X : fj_X} {Y : fj_Y} {l0 : Launch} {ad : Nat → Nat} (C : FC X Y l0 cX12_value 6 RX12 ({ frames := 1, cells := 0, slots := 0, locals := 25 } : Room) 0 0 (some .int)) (x1 : Int32) (x2 : Int32) (x3 : Int32) (h : ph_H) (hP : PX12_value_54  x1 x2 x3 h) (hR : RETi X Y ad 50 SM cX12_value (FX12_value_54  x1 x2 x3 h)) : FJ X Y ad 50 SM h 54 [(0, .ref (ad 0)), (1, .int x1), (2, .int x2), (3, .int x3)] [] := by
  unfold PX12_value_54 at hP
  unfold FX12_value_54 at hR
  refine j_iconst (v := 1) C dX12_value_54 (by decide) ?_
  refine j_goto (tgt := 59) C dX12_value_55 (by decide) ?_
  exact j_vl (tX12_value_59 C  x1 x2 x3 1 h hP hR) ⟨rfl, rfl, rfl, rfl, trivial⟩
def FX12_value_58  (x1 : Int32) (x2 : Int32) (x3 : Int32) (h : ph_H) : Int32 × ph_H := FX12_value_59  x1 x2 x3 0 h
def PX12_value_58  (x1 : Int32) (x2 : Int32) (x3 : Int32) (h : ph_H) : Prop := PX12_value_59  x1 x2 x3 0 h
set_option maxRecDepth 100000 in
set_option maxHeartbeats 4000000 in
theorem tX12_value_58 {X : fj_X} {Y : fj_Y} {l0 : Launch} {ad : Nat → Nat} (C : FC X Y l0 cX12_value 6 RX12 ({ frames := 1, cells := 0, slots := 0, locals := 25 } : Room) 0 0 (some .int)) (x1 : Int32) (x2 : Int32) (x3 : Int32) (h : ph_H) (hP : PX12_value_58  x1 x2 x3 h) (hR : RETi X Y ad 50 SM cX12_value (FX12_value_58  x1 x2 x3 h)) : FJ X Y ad 50 SM h 58 [(0, .ref (ad 0)), (1, .int x1), (2, .int x2), (3, .int x3)] [] := by
  unfold PX12_value_58 at hP
  unfold FX12_value_58 at hR
  refine j_iconst (v := 0) C dX12_value_58 (by decide) ?_
  exact j_vl (tX12_value_59 C  x1 x2 x3 0 h hP hR) ⟨rfl, rfl, rfl, rfl, trivial⟩
def FX12_value (a0 : Int32) (a1 : Int32) (a2 : Int32) (h : ph_H) : Int32 × ph_H := if (FX12_isIn a2.toInt64 0 1) = 0 then (FX12_value_58  a0 a1 a2 h) else (if a0 = (-1) then (if (FX12_isIn a1.toInt64 0 11) = 0 then (FX12_value_58  a0 a1 a2 h) else (FX12_value_54  a0 a1 a2 h)) else (if (FX12_isIn a0.toInt64 0 3) = 0 then (FX12_value_58  a0 a1 a2 h) else (if (FX12_isIn a1.toInt64 0 3) = 0 then (FX12_value_58  a0 a1 a2 h) else (FX12_value_54  a0 a1 a2 h))))
def PX12_value (a0 : Int32) (a1 : Int32) (a2 : Int32) (h : ph_H) : Prop := (PX12_isIn a2.toInt64 0 1) ∧ (((FX12_isIn a2.toInt64 0 1) = 0 → (PX12_value_58  a0 a1 a2 h)) ∧ (¬ (FX12_isIn a2.toInt64 0 1) = 0 → ((a0 = (-1) → ((PX12_isIn a1.toInt64 0 11) ∧ (((FX12_isIn a1.toInt64 0 11) = 0 → (PX12_value_58  a0 a1 a2 h)) ∧ (¬ (FX12_isIn a1.toInt64 0 11) = 0 → (PX12_value_54  a0 a1 a2 h))))) ∧ (¬ a0 = (-1) → ((PX12_isIn a0.toInt64 0 3) ∧ (((FX12_isIn a0.toInt64 0 3) = 0 → (PX12_value_58  a0 a1 a2 h)) ∧ (¬ (FX12_isIn a0.toInt64 0 3) = 0 → ((PX12_isIn a1.toInt64 0 3) ∧ (((FX12_isIn a1.toInt64 0 3) = 0 → (PX12_value_58  a0 a1 a2 h)) ∧ (¬ (FX12_isIn a1.toInt64 0 3) = 0 → (PX12_value_54  a0 a1 a2 h)))))))))))
set_option maxRecDepth 100000 in
set_option maxHeartbeats 4000000 in
theorem tX12_value {X : fj_X} {Y : fj_Y} {l0 : Launch} {ad : Nat → Nat} (C : FC X Y l0 cX12_value 6 RX12 ({ frames := 1, cells := 0, slots := 0, locals := 25 } : Room) 0 0 (some .int)) (a0 : Int32) (a1 : Int32) (a2 : Int32) (h : ph_H) (hP : PX12_value a0 a1 a2 h) (hR : RETi X Y ad 50 SM cX12_value (FX12_value a0 a1 a2 h)) : FJ X Y ad 50 SM h 0 [(0, .ref (ad 0)), (1, .int a0), (2, .int a1), (3, .int a2)] [] := by
  unfold PX12_value at hP
  unfold FX12_value at hR
  refine j_iload_n C dX12_value_0 rfl rfl ?_
  refine j_i2l C dX12_value_1 ?_
  refine j_lconst (v := 0) C dX12_value_2 (by decide) ?_
  refine j_lconst (v := 1) C dX12_value_3 (by decide) ?_
  obtain ⟨p4, hP⟩ := hP
  refine j_callS C (MX12_isIn a2.toInt64 0 1 h p4) dX12_value_4 (CKX12_isIn (by decide)) ⟨rfl, rfl⟩ lk_RX12_169 st_X12_isIn rfl (Nat.le_of_ble_eq_true rfl) ?_
  intro r S' h' hq
  obtain ⟨rfl, hh, rfl, hb6⟩ := hq
  rw [hh]
  refine j_if_eq (tgt := 58) C dX12_value_7 (by decide) (fun c0 => ?_) (fun c0 => ?_)
  · have hP := hP.1 c0
    rw [if_pos c0] at hR
    exact j_vl (tX12_value_58 C  a0 a1 a2 h hP hR) ⟨rfl, rfl, rfl, rfl, trivial⟩
  · have hP := hP.2 c0
    rw [if_neg c0] at hR
    refine j_iload_n C dX12_value_10 rfl rfl ?_
    refine j_iconst (v := (-1)) C dX12_value_11 (by decide) ?_
    refine j_icmp_ne (tgt := 30) C dX12_value_12 (by decide) (fun c1 => ?_) (fun c1 => ?_)
    · have hP := hP.2 c1
      rw [if_neg c1] at hR
      refine j_iload_n C dX12_value_30 rfl rfl ?_
      refine j_i2l C dX12_value_31 ?_
      refine j_lconst (v := 0) C dX12_value_32 (by decide) ?_
      refine j_ldc2 (v := 3) C dX12_value_33 kl_RX12_167 ?_
      obtain ⟨p4, hP⟩ := hP
      refine j_callS C (MX12_isIn a0.toInt64 0 3 h p4) dX12_value_36 (CKX12_isIn (by decide)) ⟨rfl, rfl⟩ lk_RX12_169 st_X12_isIn rfl (Nat.le_of_ble_eq_true rfl) ?_
      intro r S' h' hq
      obtain ⟨rfl, hh, rfl, hb6⟩ := hq
      rw [hh]
      refine j_if_eq (tgt := 58) C dX12_value_39 (by decide) (fun c2 => ?_) (fun c2 => ?_)
      · have hP := hP.1 c2
        rw [if_pos c2] at hR
        exact j_vl (tX12_value_58 C  a0 a1 a2 h hP hR) ⟨rfl, rfl, rfl, rfl, trivial⟩
      · have hP := hP.2 c2
        rw [if_neg c2] at hR
        refine j_iload_n C dX12_value_42 rfl rfl ?_
        refine j_i2l C dX12_value_43 ?_
        refine j_lconst (v := 0) C dX12_value_44 (by decide) ?_
        refine j_ldc2 (v := 3) C dX12_value_45 kl_RX12_167 ?_
        obtain ⟨p4, hP⟩ := hP
        refine j_callS C (MX12_isIn a1.toInt64 0 3 h p4) dX12_value_48 (CKX12_isIn (by decide)) ⟨rfl, rfl⟩ lk_RX12_169 st_X12_isIn rfl (Nat.le_of_ble_eq_true rfl) ?_
        intro r S' h' hq
        obtain ⟨rfl, hh, rfl, hb6⟩ := hq
        rw [hh]
        refine j_if_eq (tgt := 58) C dX12_value_51 (by decide) (fun c3 => ?_) (fun c3 => ?_)
        · have hP := hP.1 c3
          rw [if_pos c3] at hR
          exact j_vl (tX12_value_58 C  a0 a1 a2 h hP hR) ⟨rfl, rfl, rfl, rfl, trivial⟩
        · have hP := hP.2 c3
          rw [if_neg c3] at hR
          exact j_vl (tX12_value_54 C  a0 a1 a2 h hP hR) ⟨rfl, rfl, rfl, rfl, trivial⟩
    · have hP := hP.1 c1
      rw [if_pos c1] at hR
      refine j_iload_n C dX12_value_15 rfl rfl ?_
      refine j_i2l C dX12_value_16 ?_
      refine j_lconst (v := 0) C dX12_value_17 (by decide) ?_
      refine j_ldc2 (v := 11) C dX12_value_18 kl_RX12_175 ?_
      obtain ⟨p4, hP⟩ := hP
      refine j_callS C (MX12_isIn a1.toInt64 0 11 h p4) dX12_value_21 (CKX12_isIn (by decide)) ⟨rfl, rfl⟩ lk_RX12_169 st_X12_isIn rfl (Nat.le_of_ble_eq_true rfl) ?_
      intro r S' h' hq
      obtain ⟨rfl, hh, rfl, hb6⟩ := hq
      rw [hh]
      refine j_if_eq (tgt := 58) C dX12_value_24 (by decide) (fun c2 => ?_) (fun c2 => ?_)
      · have hP := hP.1 c2
        rw [if_pos c2] at hR
        exact j_vl (tX12_value_58 C  a0 a1 a2 h hP hR) ⟨rfl, rfl, rfl, rfl, trivial⟩
      · have hP := hP.2 c2
        rw [if_neg c2] at hR
        refine j_goto (tgt := 54) C dX12_value_27 (by decide) ?_
        exact j_vl (tX12_value_54 C  a0 a1 a2 h hP hR) ⟨rfl, rfl, rfl, rfl, trivial⟩
theorem MX12_value {l0 : Launch} {Y : fj_Y} {ad : Nat → Nat} (a0 : Int32) (a1 : Int32) (a2 : Int32) (h : ph_H) (hP : PX12_value a0 a1 a2 h) : MI l0 yX12_value cX12_value 6 (some .int) ({ frames := 1, cells := 0, slots := 0, locals := 25 } : Room) Y ad 50 SM h [.ref (ad 0), .int a0, .int a1, .int a2] (fun r S' h' => S' = SM ∧ h' = (FX12_value a0 a1 a2 h).2 ∧ r = (FX12_value a0 a1 a2 h).1) := met_i (by decide) (Nat.le_of_ble_eq_true rfl) (fun _ _ _ _ => rfl) (fun X C K => j_vl (tX12_value C a0 a1 a2 h hP (fun pc lv hd => K _ _ _ ⟨rfl, rfl, rfl⟩ pc lv hd)) ⟨rfl, rfl, rfl, rfl, trivial⟩)

-- X12_isThing
def FX12_isThing (a0 : Int32) (h : ph_H) : Int32 := if (h 0 36) = 0 then (0) else (if a0 < 0 then (0) else (if (h 24 ((h 0 42).toNatClampNeg)) ≤ a0 then (0) else (1)))
def PX12_isThing (a0 : Int32) (h : ph_H) : Prop := ((h 0 36) = 0 → (True)) ∧ (¬ (h 0 36) = 0 → ((a0 < 0 → (True)) ∧ (¬ a0 < 0 → (vp_in (h 0 42) 301 ∧ (((h 24 ((h 0 42).toNatClampNeg)) ≤ a0 → (True)) ∧ (¬ (h 24 ((h 0 42).toNatClampNeg)) ≤ a0 → (True)))))))
set_option maxRecDepth 100000 in
set_option maxHeartbeats 4000000 in
theorem tX12_isThing {X : fj_X} {Y : fj_Y} {l0 : Launch} {ad : Nat → Nat} (C : FC X Y l0 cX12_isThing 2 RX12 ({ frames := 0, cells := 0, slots := 0, locals := 0 } : Room) 0 0 (some .boolean)) (a0 : Int32) (h : ph_H) (hP : PX12_isThing a0 h) (hR : RETq X Y ad 50 SM h cX12_isThing (FX12_isThing a0 h)) : FJ X Y ad 50 SM h 0 [(0, .ref (ad 0)), (1, .int a0)] [] := by
  unfold PX12_isThing at hP
  unfold FX12_isThing at hR
  refine j_aload_n C dX12_isThing_0 rfl rfl ?_
  refine gM_294 (v := (h 0 36)) C dX12_isThing_1 rfl ?_
  refine j_if_eq (tgt := 28) C dX12_isThing_4 (by decide) (fun c0 => ?_) (fun c0 => ?_)
  · have hP := hP.1 c0
    rw [if_pos c0] at hR
    refine j_iconst (v := 0) C dX12_isThing_28 (by decide) ?_
    exact hR bo_0 _ _ dX12_isThing_29
  · have hP := hP.2 c0
    rw [if_neg c0] at hR
    refine j_iload_n C dX12_isThing_7 rfl rfl ?_
    refine j_if_lt (tgt := 28) C dX12_isThing_8 (by decide) (fun c1 => ?_) (fun c1 => ?_)
    · have hP := hP.1 c1
      rw [if_pos c1] at hR
      refine j_iconst (v := 0) C dX12_isThing_28 (by decide) ?_
      exact hR bo_0 _ _ dX12_isThing_29
    · have hP := hP.2 c1
      rw [if_neg c1] at hR
      refine j_iload_n C dX12_isThing_11 rfl rfl ?_
      refine j_aload_n C dX12_isThing_12 rfl rfl ?_
      refine gM_80 C dX12_isThing_13 ?_
      refine j_aload_n C dX12_isThing_16 rfl rfl ?_
      refine gM_316 (v := (h 0 42)) C dX12_isThing_17 rfl ?_
      obtain ⟨p5, hP⟩ := hP
      refine j_iald (k := 24) (v := (h 24 ((h 0 42).toNatClampNeg))) C dX12_isThing_20 (by decide) rfl p5 rfl ?_
      refine j_icmp_ge (tgt := 28) C dX12_isThing_21 (by decide) (fun c2 => ?_) (fun c2 => ?_)
      · have hP := hP.1 c2
        rw [if_pos c2] at hR
        refine j_iconst (v := 0) C dX12_isThing_28 (by decide) ?_
        exact hR bo_0 _ _ dX12_isThing_29
      · have hP := hP.2 c2
        rw [if_neg c2] at hR
        refine j_iconst (v := 1) C dX12_isThing_24 (by decide) ?_
        refine j_goto (tgt := 29) C dX12_isThing_25 (by decide) ?_
        exact hR bo_1 _ _ dX12_isThing_29
theorem MX12_isThing {l0 : Launch} {Y : fj_Y} {ad : Nat → Nat} (a0 : Int32) (h : ph_H) (hP : PX12_isThing a0 h) : MI l0 yX12_isThing cX12_isThing 2 (some .boolean) ({ frames := 0, cells := 0, slots := 0, locals := 0 } : Room) Y ad 50 SM h [.ref (ad 0), .int a0] (fun r S' h' => S' = SM ∧ h' = h ∧ r = FX12_isThing a0 h ∧ bo r) := met_i (by decide) (Nat.le_of_ble_eq_true rfl) (fun _ _ _ q => bo_n q.2.2.2) (fun X C K => j_vl (tX12_isThing C a0 h hP (fun b pc lv hd => K _ _ _ ⟨rfl, rfl, rfl, b⟩ pc lv hd)) ⟨rfl, rfl, trivial⟩)

-- X12_thing
def FX12_thing (a0 : Int32) (a1 : Int32) (h : ph_H) : Int32 × ph_H := if (h 0 36) = 0 then (((-2), (hs h 0 0 0))) else (if (FX12_isThing a0 (hs h 0 0 0)) = 0 then (((-1), (hs h 0 0 0))) else (if (FX12_isIn a1.toInt64 0 1) = 0 then (((-1), (hs h 0 0 0))) else (if a1 = 0 then (((h 25 (((12 * (h 0 42)) + a0).toNatClampNeg)), (hs h 0 0 0))) else (if (h 25 (((12 * (h 0 42)) + a0).toNatClampNeg)) = 1 then (((h 27 (((12 * (h 0 42)) + a0).toNatClampNeg)), (hs h 0 0 0))) else (if 0 ≤ (h 26 (((12 * (h 0 42)) + a0).toNatClampNeg)) then (((h 26 (((12 * (h 0 42)) + a0).toNatClampNeg)), (hs h 0 0 0))) else (((-2), (hs h 0 0 0))))))))
def PX12_thing (a0 : Int32) (a1 : Int32) (h : ph_H) : Prop := ((h 0 36) = 0 → (True)) ∧ (¬ (h 0 36) = 0 → ((PX12_isThing a0 (hs h 0 0 0)) ∧ (((FX12_isThing a0 (hs h 0 0 0)) = 0 → (True)) ∧ (¬ (FX12_isThing a0 (hs h 0 0 0)) = 0 → ((PX12_isIn a1.toInt64 0 1) ∧ (((FX12_isIn a1.toInt64 0 1) = 0 → (True)) ∧ (¬ (FX12_isIn a1.toInt64 0 1) = 0 → (vp_in ((12 * (h 0 42)) + a0) 3612 ∧ (vp_in ((12 * (h 0 42)) + a0) 3612 ∧ ((a1 = 0 → (True)) ∧ (¬ a1 = 0 → (((h 25 (((12 * (h 0 42)) + a0).toNatClampNeg)) = 1 → (vp_in ((12 * (h 0 42)) + a0) 3612 ∧ (True))) ∧ (¬ (h 25 (((12 * (h 0 42)) + a0).toNatClampNeg)) = 1 → ((0 ≤ (h 26 (((12 * (h 0 42)) + a0).toNatClampNeg)) → (True)) ∧ (¬ 0 ≤ (h 26 (((12 * (h 0 42)) + a0).toNatClampNeg)) → (True))))))))))))))))
set_option maxRecDepth 100000 in
set_option maxHeartbeats 4000000 in
theorem tX12_thing {X : fj_X} {Y : fj_Y} {l0 : Launch} {ad : Nat → Nat} (C : FC X Y l0 cX12_thing 5 RX12 ({ frames := 1, cells := 0, slots := 0, locals := 25 } : Room) 0 0 (some .int)) (a0 : Int32) (a1 : Int32) (h : ph_H) (hP : PX12_thing a0 a1 h) (hR : RETi X Y ad 50 SM cX12_thing (FX12_thing a0 a1 h)) : FJ X Y ad 50 SM h 0 [(0, .ref (ad 0)), (1, .int a0), (2, .int a1)] [] := by
  unfold PX12_thing at hP
  unfold FX12_thing at hR
  refine j_aload_n C dX12_thing_0 rfl rfl ?_
  refine j_iconst (v := 0) C dX12_thing_1 (by decide) ?_
  refine pM_164 C dX12_thing_2 ?_
  refine j_aload_n C dX12_thing_5 rfl rfl ?_
  refine gM_294 (v := (h 0 36)) C dX12_thing_6 (hz_i (by decide)) ?_
  refine j_if_ne (tgt := 15) C dX12_thing_9 (by decide) (fun c0 => ?_) (fun c0 => ?_)
  · have hP := hP.2 c0
    rw [if_neg c0] at hR
    refine j_aload_n C dX12_thing_15 rfl rfl ?_
    refine j_iload_n C dX12_thing_16 rfl rfl ?_
    obtain ⟨p2, hP⟩ := hP
    refine j_callV C (MX12_isThing a0 (hs h 0 0 0) p2) dX12_thing_17 (CKX12_isThing (by decide)) ⟨rfl, rfl⟩ lk_RX12_322 in_X12_isThing se_X12_isThing (by decide) rfl rfl rfl (Nat.le_of_ble_eq_true rfl) ?_
    intro r S' h' hq
    obtain ⟨rfl, hh, rfl, hb4⟩ := hq
    rw [hh]
    refine j_if_eq (tgt := 33) C dX12_thing_20 (by decide) (fun c1 => ?_) (fun c1 => ?_)
    · have hP := hP.1 c1
      rw [if_pos c1] at hR
      refine j_iconst (v := (-1)) C dX12_thing_33 (by decide) ?_
      exact hR _ _ dX12_thing_34
    · have hP := hP.2 c1
      rw [if_neg c1] at hR
      refine j_iload_n C dX12_thing_23 rfl rfl ?_
      refine j_i2l C dX12_thing_24 ?_
      refine j_lconst (v := 0) C dX12_thing_25 (by decide) ?_
      refine j_lconst (v := 1) C dX12_thing_26 (by decide) ?_
      obtain ⟨p4, hP⟩ := hP
      refine j_callS C (MX12_isIn a1.toInt64 0 1 (hs h 0 0 0) p4) dX12_thing_27 (CKX12_isIn (by decide)) ⟨rfl, rfl⟩ lk_RX12_169 st_X12_isIn rfl (Nat.le_of_ble_eq_true rfl) ?_
      intro r S' h' hq
      obtain ⟨rfl, hh, rfl, hb6⟩ := hq
      rw [hh]
      refine j_if_ne (tgt := 35) C dX12_thing_30 (by decide) (fun c2 => ?_) (fun c2 => ?_)
      · have hP := hP.2 c2
        rw [if_neg c2] at hR
        refine j_aload_n C dX12_thing_35 rfl rfl ?_
        refine gM_83 C dX12_thing_36 ?_
        refine j_bipush (v := 12) C dX12_thing_39 (by decide) ?_
        refine j_aload_n C dX12_thing_41 rfl rfl ?_
        refine gM_316 (v := (h 0 42)) C dX12_thing_42 (hz_i (by decide)) ?_
        refine j_imul C dX12_thing_45 ?_
        refine j_iload_n C dX12_thing_46 rfl rfl ?_
        refine j_iadd C dX12_thing_47 ?_
        obtain ⟨p8, hP⟩ := hP
        refine j_iald (k := 25) (v := (h 25 (((12 * (h 0 42)) + a0).toNatClampNeg))) C dX12_thing_48 (by decide) rfl p8 (hz_k (by decide)) ?_
        refine j_istore_n C dX12_thing_49 rfl (by decide) rfl ?_
        refine j_aload_n C dX12_thing_50 rfl rfl ?_
        refine gM_86 C dX12_thing_51 ?_
        refine j_bipush (v := 12) C dX12_thing_54 (by decide) ?_
        refine j_aload_n C dX12_thing_56 rfl rfl ?_
        refine gM_316 (v := (h 0 42)) C dX12_thing_57 (hz_i (by decide)) ?_
        refine j_imul C dX12_thing_60 ?_
        refine j_iload_n C dX12_thing_61 rfl rfl ?_
        refine j_iadd C dX12_thing_62 ?_
        obtain ⟨p19, hP⟩ := hP
        refine j_iald (k := 26) (v := (h 26 (((12 * (h 0 42)) + a0).toNatClampNeg))) C dX12_thing_63 (by decide) rfl p19 (hz_k (by decide)) ?_
        refine j_istore C dX12_thing_64 (by decide) rfl ?_
        refine j_iload_n C dX12_thing_66 rfl rfl ?_
        refine j_if_ne (tgt := 74) C dX12_thing_67 (by decide) (fun c3 => ?_) (fun c3 => ?_)
        · have hP := hP.2 c3
          rw [if_neg c3] at hR
          refine j_iload_n C dX12_thing_74 rfl rfl ?_
          refine j_iconst (v := 1) C dX12_thing_75 (by decide) ?_
          refine j_icmp_ne (tgt := 96) C dX12_thing_76 (by decide) (fun c4 => ?_) (fun c4 => ?_)
          · have hP := hP.2 c4
            rw [if_neg c4] at hR
            refine j_iload C dX12_thing_96 rfl ?_
            refine j_if_ge (tgt := 106) C dX12_thing_98 (by decide) (fun c5 => ?_) (fun c5 => ?_)
            · have hP := hP.1 c5
              rw [if_pos c5] at hR
              refine j_iload C dX12_thing_106 rfl ?_
              exact hR _ _ dX12_thing_108
            · have hP := hP.2 c5
              rw [if_neg c5] at hR
              refine j_bipush (v := (-2)) C dX12_thing_101 (by decide) ?_
              refine j_goto (tgt := 108) C dX12_thing_103 (by decide) ?_
              exact hR _ _ dX12_thing_108
          · have hP := hP.1 c4
            rw [if_pos c4] at hR
            refine j_aload_n C dX12_thing_79 rfl rfl ?_
            refine gM_89 C dX12_thing_80 ?_
            refine j_bipush (v := 12) C dX12_thing_83 (by decide) ?_
            refine j_aload_n C dX12_thing_85 rfl rfl ?_
            refine gM_316 (v := (h 0 42)) C dX12_thing_86 (hz_i (by decide)) ?_
            refine j_imul C dX12_thing_89 ?_
            refine j_iload_n C dX12_thing_90 rfl rfl ?_
            refine j_iadd C dX12_thing_91 ?_
            obtain ⟨p8, hP⟩ := hP
            refine j_iald (k := 27) (v := (h 27 (((12 * (h 0 42)) + a0).toNatClampNeg))) C dX12_thing_92 (by decide) rfl p8 (hz_k (by decide)) ?_
            refine j_goto (tgt := 108) C dX12_thing_93 (by decide) ?_
            exact hR _ _ dX12_thing_108
        · have hP := hP.1 c3
          rw [if_pos c3] at hR
          refine j_iload_n C dX12_thing_70 rfl rfl ?_
          refine j_goto (tgt := 108) C dX12_thing_71 (by decide) ?_
          exact hR _ _ dX12_thing_108
      · have hP := hP.1 c2
        rw [if_pos c2] at hR
        refine j_iconst (v := (-1)) C dX12_thing_33 (by decide) ?_
        exact hR _ _ dX12_thing_34
  · have hP := hP.1 c0
    rw [if_pos c0] at hR
    refine j_bipush (v := (-2)) C dX12_thing_12 (by decide) ?_
    exact hR _ _ dX12_thing_14
theorem MX12_thing {l0 : Launch} {Y : fj_Y} {ad : Nat → Nat} (a0 : Int32) (a1 : Int32) (h : ph_H) (hP : PX12_thing a0 a1 h) : MI l0 yX12_thing cX12_thing 5 (some .int) ({ frames := 1, cells := 0, slots := 0, locals := 25 } : Room) Y ad 50 SM h [.ref (ad 0), .int a0, .int a1] (fun r S' h' => S' = SM ∧ h' = (FX12_thing a0 a1 h).2 ∧ r = (FX12_thing a0 a1 h).1) := met_i (by decide) (Nat.le_of_ble_eq_true rfl) (fun _ _ _ _ => rfl) (fun X C K => j_vl (tX12_thing C a0 a1 h hP (fun pc lv hd => K _ _ _ ⟨rfl, rfl, rfl⟩ pc lv hd)) ⟨rfl, rfl, rfl, trivial⟩)

-- X12_place
def FX12_place_79  (x1 : Int32) (x2 : Int32) (x3 : Int32) (s0 : Int32) (h : ph_H) : Int32 × ph_H := if x3 = 0 then ((0, (hs h 0 0 s0))) else (((h 28 ((((192 * (h 0 42)) + (16 * x1)) + x2).toNatClampNeg)), (hs h 0 0 s0)))
def PX12_place_79  (x1 : Int32) (x2 : Int32) (x3 : Int32) (s0 : Int32) (h : ph_H) : Prop := (x3 = 0 → (True)) ∧ (¬ x3 = 0 → (vp_in (((192 * (h 0 42)) + (16 * x1)) + x2) 57792 ∧ (True)))
set_option maxRecDepth 100000 in
set_option maxHeartbeats 4000000 in
theorem tX12_place_79 {X : fj_X} {Y : fj_Y} {l0 : Launch} {ad : Nat → Nat} (C : FC X Y l0 cX12_place 4 RX12 ({ frames := 1, cells := 0, slots := 0, locals := 25 } : Room) 0 0 (some .int)) (x1 : Int32) (x2 : Int32) (x3 : Int32) (s0 : Int32) (h : ph_H) (hP : PX12_place_79  x1 x2 x3 s0 h) (hR : RETi X Y ad 50 SM cX12_place (FX12_place_79  x1 x2 x3 s0 h)) : FJ X Y ad 50 SM h 79 [(0, .ref (ad 0)), (1, .int x1), (2, .int x2), (3, .int x3)] [.int s0, .ref (ad 0)] := by
  unfold PX12_place_79 at hP
  unfold FX12_place_79 at hR
  refine pM_164 C dX12_place_79 ?_
  refine j_iload_n C dX12_place_82 rfl rfl ?_
  refine j_if_eq (tgt := 109) C dX12_place_83 (by decide) (fun c0 => ?_) (fun c0 => ?_)
  · have hP := hP.1 c0
    rw [if_pos c0] at hR
    refine j_iconst (v := 0) C dX12_place_109 (by decide) ?_
    exact hR _ _ dX12_place_110
  · have hP := hP.2 c0
    rw [if_neg c0] at hR
    refine j_aload_n C dX12_place_86 rfl rfl ?_
    refine gM_93 C dX12_place_87 ?_
    refine j_sipush (v := 192) C dX12_place_90 (by decide) ?_
    refine j_aload_n C dX12_place_93 rfl rfl ?_
    refine gM_316 (v := (h 0 42)) C dX12_place_94 (hz_i (by decide)) ?_
    refine j_imul C dX12_place_97 ?_
    refine j_bipush (v := 16) C dX12_place_98 (by decide) ?_
    refine j_iload_n C dX12_place_100 rfl rfl ?_
    refine j_imul C dX12_place_101 ?_
    refine j_iadd C dX12_place_102 ?_
    refine j_iload_n C dX12_place_103 rfl rfl ?_
    refine j_iadd C dX12_place_104 ?_
    obtain ⟨p12, hP⟩ := hP
    refine j_iald (k := 28) (v := (h 28 ((((192 * (h 0 42)) + (16 * x1)) + x2).toNatClampNeg))) C dX12_place_105 (by decide) rfl p12 (hz_k (by decide)) ?_
    refine j_goto (tgt := 110) C dX12_place_106 (by decide) ?_
    exact hR _ _ dX12_place_110
def FX12_place_57  (x1 : Int32) (x2 : Int32) (s0 : Int32) (h : ph_H) : Int32 × ph_H := if (h 0 36) = 0 then (FX12_place_79  x1 x2 s0 2 h) else (if s0 = 0 then (FX12_place_79  x1 x2 s0 1 h) else (FX12_place_79  x1 x2 s0 0 h))
def PX12_place_57  (x1 : Int32) (x2 : Int32) (s0 : Int32) (h : ph_H) : Prop := ((h 0 36) = 0 → (PX12_place_79  x1 x2 s0 2 h)) ∧ (¬ (h 0 36) = 0 → ((s0 = 0 → (PX12_place_79  x1 x2 s0 1 h)) ∧ (¬ s0 = 0 → (PX12_place_79  x1 x2 s0 0 h))))
set_option maxRecDepth 100000 in
set_option maxHeartbeats 4000000 in
theorem tX12_place_57 {X : fj_X} {Y : fj_Y} {l0 : Launch} {ad : Nat → Nat} (C : FC X Y l0 cX12_place 4 RX12 ({ frames := 1, cells := 0, slots := 0, locals := 25 } : Room) 0 0 (some .int)) (x1 : Int32) (x2 : Int32) (s0 : Int32) (h : ph_H) (hP : PX12_place_57  x1 x2 s0 h) (hR : RETi X Y ad 50 SM cX12_place (FX12_place_57  x1 x2 s0 h)) : FJ X Y ad 50 SM h 57 [(0, .ref (ad 0)), (1, .int x1), (2, .int x2)] [.int s0] := by
  unfold PX12_place_57 at hP
  unfold FX12_place_57 at hR
  refine j_istore_n C dX12_place_57 rfl (by decide) rfl ?_
  refine j_aload_n C dX12_place_58 rfl rfl ?_
  refine j_aload_n C dX12_place_59 rfl rfl ?_
  refine gM_294 (v := (h 0 36)) C dX12_place_60 rfl ?_
  refine j_if_ne (tgt := 70) C dX12_place_63 (by decide) (fun c0 => ?_) (fun c0 => ?_)
  · have hP := hP.2 c0
    rw [if_neg c0] at hR
    refine j_iload_n C dX12_place_70 rfl rfl ?_
    refine j_if_eq (tgt := 78) C dX12_place_71 (by decide) (fun c1 => ?_) (fun c1 => ?_)
    · have hP := hP.1 c1
      rw [if_pos c1] at hR
      refine j_iconst (v := 1) C dX12_place_78 (by decide) ?_
      exact j_vl (tX12_place_79 C  x1 x2 s0 1 h hP hR) ⟨rfl, rfl, rfl, rfl, trivial⟩
    · have hP := hP.2 c1
      rw [if_neg c1] at hR
      refine j_iconst (v := 0) C dX12_place_74 (by decide) ?_
      refine j_goto (tgt := 79) C dX12_place_75 (by decide) ?_
      exact j_vl (tX12_place_79 C  x1 x2 s0 0 h hP hR) ⟨rfl, rfl, rfl, rfl, trivial⟩
  · have hP := hP.1 c0
    rw [if_pos c0] at hR
    refine j_iconst (v := 2) C dX12_place_66 (by decide) ?_
    refine j_goto (tgt := 79) C dX12_place_67 (by decide) ?_
    exact j_vl (tX12_place_79 C  x1 x2 s0 2 h hP hR) ⟨rfl, rfl, rfl, rfl, trivial⟩
def FX12_place_56  (x1 : Int32) (x2 : Int32) (h : ph_H) : Int32 × ph_H := FX12_place_57  x1 x2 0 h
def PX12_place_56  (x1 : Int32) (x2 : Int32) (h : ph_H) : Prop := PX12_place_57  x1 x2 0 h
set_option maxRecDepth 100000 in
set_option maxHeartbeats 4000000 in
theorem tX12_place_56 {X : fj_X} {Y : fj_Y} {l0 : Launch} {ad : Nat → Nat} (C : FC X Y l0 cX12_place 4 RX12 ({ frames := 1, cells := 0, slots := 0, locals := 25 } : Room) 0 0 (some .int)) (x1 : Int32) (x2 : Int32) (h : ph_H) (hP : PX12_place_56  x1 x2 h) (hR : RETi X Y ad 50 SM cX12_place (FX12_place_56  x1 x2 h)) : FJ X Y ad 50 SM h 56 [(0, .ref (ad 0)), (1, .int x1), (2, .int x2)] [] := by
  unfold PX12_place_56 at hP
  unfold FX12_place_56 at hR
  refine j_iconst (v := 0) C dX12_place_56 (by decide) ?_
  exact j_vl (tX12_place_57 C  x1 x2 0 h hP hR) ⟨rfl, rfl, rfl, trivial⟩
def FX12_place (a0 : Int32) (a1 : Int32) (h : ph_H) : Int32 × ph_H := if (FX12_isThing a0 h) = 0 then (FX12_place_56  a0 a1 h) else (if (h 25 (((12 * (h 0 42)) + a0).toNatClampNeg)) = 1 then (if (FX12_isIn a1.toInt64 0 (((h 27 (((12 * (h 0 42)) + a0).toNatClampNeg)) - 1).toInt64)) = 0 then (FX12_place_56  a0 a1 h) else (FX12_place_57  a0 a1 1 h)) else (FX12_place_56  a0 a1 h))
def PX12_place (a0 : Int32) (a1 : Int32) (h : ph_H) : Prop := (PX12_isThing a0 h) ∧ (((FX12_isThing a0 h) = 0 → (PX12_place_56  a0 a1 h)) ∧ (¬ (FX12_isThing a0 h) = 0 → (vp_in ((12 * (h 0 42)) + a0) 3612 ∧ (((h 25 (((12 * (h 0 42)) + a0).toNatClampNeg)) = 1 → (vp_in ((12 * (h 0 42)) + a0) 3612 ∧ ((PX12_isIn a1.toInt64 0 (((h 27 (((12 * (h 0 42)) + a0).toNatClampNeg)) - 1).toInt64)) ∧ (((FX12_isIn a1.toInt64 0 (((h 27 (((12 * (h 0 42)) + a0).toNatClampNeg)) - 1).toInt64)) = 0 → (PX12_place_56  a0 a1 h)) ∧ (¬ (FX12_isIn a1.toInt64 0 (((h 27 (((12 * (h 0 42)) + a0).toNatClampNeg)) - 1).toInt64)) = 0 → (PX12_place_57  a0 a1 1 h)))))) ∧ (¬ (h 25 (((12 * (h 0 42)) + a0).toNatClampNeg)) = 1 → (PX12_place_56  a0 a1 h))))))
set_option maxRecDepth 100000 in
set_option maxHeartbeats 4000000 in
theorem tX12_place {X : fj_X} {Y : fj_Y} {l0 : Launch} {ad : Nat → Nat} (C : FC X Y l0 cX12_place 4 RX12 ({ frames := 1, cells := 0, slots := 0, locals := 25 } : Room) 0 0 (some .int)) (a0 : Int32) (a1 : Int32) (h : ph_H) (hP : PX12_place a0 a1 h) (hR : RETi X Y ad 50 SM cX12_place (FX12_place a0 a1 h)) : FJ X Y ad 50 SM h 0 [(0, .ref (ad 0)), (1, .int a0), (2, .int a1)] [] := by
  unfold PX12_place at hP
  unfold FX12_place at hR
  refine j_aload_n C dX12_place_0 rfl rfl ?_
  refine j_iload_n C dX12_place_1 rfl rfl ?_
  obtain ⟨p2, hP⟩ := hP
  refine j_callV C (MX12_isThing a0 h p2) dX12_place_2 (CKX12_isThing (by decide)) ⟨rfl, rfl⟩ lk_RX12_322 in_X12_isThing se_X12_isThing (by decide) rfl rfl rfl (Nat.le_of_ble_eq_true rfl) ?_
  intro r S' h' hq
  obtain ⟨rfl, hh, rfl, hb4⟩ := hq
  rw [hh]
  refine j_if_eq (tgt := 56) C dX12_place_5 (by decide) (fun c0 => ?_) (fun c0 => ?_)
  · have hP := hP.1 c0
    rw [if_pos c0] at hR
    exact j_vl (tX12_place_56 C  a0 a1 h hP hR) ⟨rfl, rfl, rfl, trivial⟩
  · have hP := hP.2 c0
    rw [if_neg c0] at hR
    refine j_aload_n C dX12_place_8 rfl rfl ?_
    refine gM_83 C dX12_place_9 ?_
    refine j_bipush (v := 12) C dX12_place_12 (by decide) ?_
    refine j_aload_n C dX12_place_14 rfl rfl ?_
    refine gM_316 (v := (h 0 42)) C dX12_place_15 rfl ?_
    refine j_imul C dX12_place_18 ?_
    refine j_iload_n C dX12_place_19 rfl rfl ?_
    refine j_iadd C dX12_place_20 ?_
    obtain ⟨p8, hP⟩ := hP
    refine j_iald (k := 25) (v := (h 25 (((12 * (h 0 42)) + a0).toNatClampNeg))) C dX12_place_21 (by decide) rfl p8 rfl ?_
    refine j_iconst (v := 1) C dX12_place_22 (by decide) ?_
    refine j_icmp_ne (tgt := 56) C dX12_place_23 (by decide) (fun c1 => ?_) (fun c1 => ?_)
    · have hP := hP.2 c1
      rw [if_neg c1] at hR
      exact j_vl (tX12_place_56 C  a0 a1 h hP hR) ⟨rfl, rfl, rfl, trivial⟩
    · have hP := hP.1 c1
      rw [if_pos c1] at hR
      refine j_iload_n C dX12_place_26 rfl rfl ?_
      refine j_i2l C dX12_place_27 ?_
      refine j_lconst (v := 0) C dX12_place_28 (by decide) ?_
      refine j_aload_n C dX12_place_29 rfl rfl ?_
      refine gM_89 C dX12_place_30 ?_
      refine j_bipush (v := 12) C dX12_place_33 (by decide) ?_
      refine j_aload_n C dX12_place_35 rfl rfl ?_
      refine gM_316 (v := (h 0 42)) C dX12_place_36 rfl ?_
      refine j_imul C dX12_place_39 ?_
      refine j_iload_n C dX12_place_40 rfl rfl ?_
      refine j_iadd C dX12_place_41 ?_
      obtain ⟨p11, hP⟩ := hP
      refine j_iald (k := 27) (v := (h 27 (((12 * (h 0 42)) + a0).toNatClampNeg))) C dX12_place_42 (by decide) rfl p11 rfl ?_
      refine j_iconst (v := 1) C dX12_place_43 (by decide) ?_
      refine j_isub C dX12_place_44 ?_
      refine j_i2l C dX12_place_45 ?_
      obtain ⟨p16, hP⟩ := hP
      refine j_callS C (MX12_isIn a1.toInt64 0 (((h 27 (((12 * (h 0 42)) + a0).toNatClampNeg)) - 1).toInt64) h p16) dX12_place_46 (CKX12_isIn (by decide)) ⟨rfl, rfl⟩ lk_RX12_169 st_X12_isIn rfl (Nat.le_of_ble_eq_true rfl) ?_
      intro r S' h' hq
      obtain ⟨rfl, hh, rfl, hb18⟩ := hq
      rw [hh]
      refine j_if_eq (tgt := 56) C dX12_place_49 (by decide) (fun c2 => ?_) (fun c2 => ?_)
      · have hP := hP.1 c2
        rw [if_pos c2] at hR
        exact j_vl (tX12_place_56 C  a0 a1 h hP hR) ⟨rfl, rfl, rfl, trivial⟩
      · have hP := hP.2 c2
        rw [if_neg c2] at hR
        refine j_iconst (v := 1) C dX12_place_52 (by decide) ?_
        refine j_goto (tgt := 57) C dX12_place_53 (by decide) ?_
        exact j_vl (tX12_place_57 C  a0 a1 1 h hP hR) ⟨rfl, rfl, rfl, trivial⟩
theorem MX12_place {l0 : Launch} {Y : fj_Y} {ad : Nat → Nat} (a0 : Int32) (a1 : Int32) (h : ph_H) (hP : PX12_place a0 a1 h) : MI l0 yX12_place cX12_place 4 (some .int) ({ frames := 1, cells := 0, slots := 0, locals := 25 } : Room) Y ad 50 SM h [.ref (ad 0), .int a0, .int a1] (fun r S' h' => S' = SM ∧ h' = (FX12_place a0 a1 h).2 ∧ r = (FX12_place a0 a1 h).1) := met_i (by decide) (Nat.le_of_ble_eq_true rfl) (fun _ _ _ _ => rfl) (fun X C K => j_vl (tX12_place C a0 a1 h hP (fun pc lv hd => K _ _ _ ⟨rfl, rfl, rfl⟩ pc lv hd)) ⟨rfl, rfl, rfl, trivial⟩)

-- X12_thread
def FX12_thread (a0 : Int32) (a1 : Int32) (h : ph_H) : Int32 × ph_H := if (h 0 36) = 0 then (((-2), (hs h 0 0 0))) else (if (FX12_isIn a0.toInt64 0 3) = 0 then (((-1), (hs h 0 0 0))) else (if (FX12_isIn a1.toInt64 0 1) = 0 then (((-1), (hs h 0 0 0))) else (if a1 = 0 then (((h 22 (((4 * (h 0 42)) + a0).toNatClampNeg)), (hs h 0 0 0))) else (((h 23 (((4 * (h 0 42)) + a0).toNatClampNeg)), (hs h 0 0 0))))))
def PX12_thread (a0 : Int32) (a1 : Int32) (h : ph_H) : Prop := ((h 0 36) = 0 → (True)) ∧ (¬ (h 0 36) = 0 → ((PX12_isIn a0.toInt64 0 3) ∧ (((FX12_isIn a0.toInt64 0 3) = 0 → (True)) ∧ (¬ (FX12_isIn a0.toInt64 0 3) = 0 → ((PX12_isIn a1.toInt64 0 1) ∧ (((FX12_isIn a1.toInt64 0 1) = 0 → (True)) ∧ (¬ (FX12_isIn a1.toInt64 0 1) = 0 → ((a1 = 0 → (vp_in ((4 * (h 0 42)) + a0) 1204 ∧ (True))) ∧ (¬ a1 = 0 → (vp_in ((4 * (h 0 42)) + a0) 1204 ∧ (True)))))))))))
set_option maxRecDepth 100000 in
set_option maxHeartbeats 4000000 in
theorem tX12_thread {X : fj_X} {Y : fj_Y} {l0 : Launch} {ad : Nat → Nat} (C : FC X Y l0 cX12_thread 3 RX12 ({ frames := 1, cells := 0, slots := 0, locals := 25 } : Room) 0 0 (some .int)) (a0 : Int32) (a1 : Int32) (h : ph_H) (hP : PX12_thread a0 a1 h) (hR : RETi X Y ad 50 SM cX12_thread (FX12_thread a0 a1 h)) : FJ X Y ad 50 SM h 0 [(0, .ref (ad 0)), (1, .int a0), (2, .int a1)] [] := by
  unfold PX12_thread at hP
  unfold FX12_thread at hR
  refine j_aload_n C dX12_thread_0 rfl rfl ?_
  refine j_iconst (v := 0) C dX12_thread_1 (by decide) ?_
  refine pM_164 C dX12_thread_2 ?_
  refine j_aload_n C dX12_thread_5 rfl rfl ?_
  refine gM_294 (v := (h 0 36)) C dX12_thread_6 (hz_i (by decide)) ?_
  refine j_if_ne (tgt := 15) C dX12_thread_9 (by decide) (fun c0 => ?_) (fun c0 => ?_)
  · have hP := hP.2 c0
    rw [if_neg c0] at hR
    refine j_iload_n C dX12_thread_15 rfl rfl ?_
    refine j_i2l C dX12_thread_16 ?_
    refine j_lconst (v := 0) C dX12_thread_17 (by decide) ?_
    refine j_ldc2 (v := 3) C dX12_thread_18 kl_RX12_167 ?_
    obtain ⟨p4, hP⟩ := hP
    refine j_callS C (MX12_isIn a0.toInt64 0 3 (hs h 0 0 0) p4) dX12_thread_21 (CKX12_isIn (by decide)) ⟨rfl, rfl⟩ lk_RX12_169 st_X12_isIn rfl (Nat.le_of_ble_eq_true rfl) ?_
    intro r S' h' hq
    obtain ⟨rfl, hh, rfl, hb6⟩ := hq
    rw [hh]
    refine j_if_eq (tgt := 37) C dX12_thread_24 (by decide) (fun c1 => ?_) (fun c1 => ?_)
    · have hP := hP.1 c1
      rw [if_pos c1] at hR
      refine j_iconst (v := (-1)) C dX12_thread_37 (by decide) ?_
      exact hR _ _ dX12_thread_38
    · have hP := hP.2 c1
      rw [if_neg c1] at hR
      refine j_iload_n C dX12_thread_27 rfl rfl ?_
      refine j_i2l C dX12_thread_28 ?_
      refine j_lconst (v := 0) C dX12_thread_29 (by decide) ?_
      refine j_lconst (v := 1) C dX12_thread_30 (by decide) ?_
      obtain ⟨p4, hP⟩ := hP
      refine j_callS C (MX12_isIn a1.toInt64 0 1 (hs h 0 0 0) p4) dX12_thread_31 (CKX12_isIn (by decide)) ⟨rfl, rfl⟩ lk_RX12_169 st_X12_isIn rfl (Nat.le_of_ble_eq_true rfl) ?_
      intro r S' h' hq
      obtain ⟨rfl, hh, rfl, hb6⟩ := hq
      rw [hh]
      refine j_if_ne (tgt := 39) C dX12_thread_34 (by decide) (fun c2 => ?_) (fun c2 => ?_)
      · have hP := hP.2 c2
        rw [if_neg c2] at hR
        refine j_iload_n C dX12_thread_39 rfl rfl ?_
        refine j_if_ne (tgt := 59) C dX12_thread_40 (by decide) (fun c3 => ?_) (fun c3 => ?_)
        · have hP := hP.2 c3
          rw [if_neg c3] at hR
          refine j_aload_n C dX12_thread_59 rfl rfl ?_
          refine gM_77 C dX12_thread_60 ?_
          refine j_iconst (v := 4) C dX12_thread_63 (by decide) ?_
          refine j_aload_n C dX12_thread_64 rfl rfl ?_
          refine gM_316 (v := (h 0 42)) C dX12_thread_65 (hz_i (by decide)) ?_
          refine j_imul C dX12_thread_68 ?_
          refine j_iload_n C dX12_thread_69 rfl rfl ?_
          refine j_iadd C dX12_thread_70 ?_
          obtain ⟨p8, hP⟩ := hP
          refine j_iald (k := 23) (v := (h 23 (((4 * (h 0 42)) + a0).toNatClampNeg))) C dX12_thread_71 (by decide) rfl p8 (hz_k (by decide)) ?_
          exact hR _ _ dX12_thread_72
        · have hP := hP.1 c3
          rw [if_pos c3] at hR
          refine j_aload_n C dX12_thread_43 rfl rfl ?_
          refine gM_74 C dX12_thread_44 ?_
          refine j_iconst (v := 4) C dX12_thread_47 (by decide) ?_
          refine j_aload_n C dX12_thread_48 rfl rfl ?_
          refine gM_316 (v := (h 0 42)) C dX12_thread_49 (hz_i (by decide)) ?_
          refine j_imul C dX12_thread_52 ?_
          refine j_iload_n C dX12_thread_53 rfl rfl ?_
          refine j_iadd C dX12_thread_54 ?_
          obtain ⟨p8, hP⟩ := hP
          refine j_iald (k := 22) (v := (h 22 (((4 * (h 0 42)) + a0).toNatClampNeg))) C dX12_thread_55 (by decide) rfl p8 (hz_k (by decide)) ?_
          refine j_goto (tgt := 72) C dX12_thread_56 (by decide) ?_
          exact hR _ _ dX12_thread_72
      · have hP := hP.1 c2
        rw [if_pos c2] at hR
        refine j_iconst (v := (-1)) C dX12_thread_37 (by decide) ?_
        exact hR _ _ dX12_thread_38
  · have hP := hP.1 c0
    rw [if_pos c0] at hR
    refine j_bipush (v := (-2)) C dX12_thread_12 (by decide) ?_
    exact hR _ _ dX12_thread_14
theorem MX12_thread {l0 : Launch} {Y : fj_Y} {ad : Nat → Nat} (a0 : Int32) (a1 : Int32) (h : ph_H) (hP : PX12_thread a0 a1 h) : MI l0 yX12_thread cX12_thread 3 (some .int) ({ frames := 1, cells := 0, slots := 0, locals := 25 } : Room) Y ad 50 SM h [.ref (ad 0), .int a0, .int a1] (fun r S' h' => S' = SM ∧ h' = (FX12_thread a0 a1 h).2 ∧ r = (FX12_thread a0 a1 h).1) := met_i (by decide) (Nat.le_of_ble_eq_true rfl) (fun _ _ _ _ => rfl) (fun X C K => j_vl (tX12_thread C a0 a1 h hP (fun pc lv hd => K _ _ _ ⟨rfl, rfl, rfl⟩ pc lv hd)) ⟨rfl, rfl, rfl, trivial⟩)

-- X12_last
def FX12_last_63 (L36 : Int32 → Int32 → Int32 → Int32 → ph_H → Int32 × ph_H) (x1 : Int32) (x2 : Int32) (x4 : Int32) (s0 : Int32) (h : ph_H) : Int32 × ph_H := L36 x1 x2 s0 (x4 + 1) h
def PX12_last_63 (LP36 : Int32 → Int32 → Int32 → Int32 → ph_H → Prop) (x1 : Int32) (x2 : Int32) (x4 : Int32) (s0 : Int32) (h : ph_H) : Prop := LP36 x1 x2 s0 (x4 + 1) h
set_option maxRecDepth 100000 in
set_option maxHeartbeats 4000000 in
theorem tX12_last_63 {X : fj_X} {Y : fj_Y} {l0 : Launch} {ad : Nat → Nat} (C : FC X Y l0 cX12_last 5 RX12 ({ frames := 1, cells := 0, slots := 0, locals := 25 } : Room) 0 0 (some .int)) (L36 : Int32 → Int32 → Int32 → Int32 → ph_H → Int32 × ph_H) (LP36 : Int32 → Int32 → Int32 → Int32 → ph_H → Prop) (hL36 : ∀ (x1 : Int32) (x2 : Int32) (x3 : Int32) (x4 : Int32) (h : ph_H), LP36 x1 x2 x3 x4 h → RETi X Y ad 50 SM cX12_last (L36 x1 x2 x3 x4 h) → FJ X Y ad 50 SM h 36 [(0, .ref (ad 0)), (1, .int x1), (2, .int x2), (3, .int x3), (4, .int x4)] []) (x1 : Int32) (x2 : Int32) (x4 : Int32) (s0 : Int32) (h : ph_H) (hP : PX12_last_63 LP36 x1 x2 x4 s0 h) (hR : RETi X Y ad 50 SM cX12_last (FX12_last_63 L36 x1 x2 x4 s0 h)) : FJ X Y ad 50 SM h 63 [(0, .ref (ad 0)), (1, .int x1), (2, .int x2), (4, .int x4)] [.int s0] := by
  unfold PX12_last_63 at hP
  unfold FX12_last_63 at hR
  refine j_istore_n C dX12_last_63 rfl (by decide) rfl ?_
  refine j_iinc (v := (x4 + 1)) C dX12_last_64 rfl rfl (by decide) rfl ?_
  refine j_goto (tgt := 36) C dX12_last_67 (by decide) ?_
  exact j_vl (hL36 x1 x2 s0 (x4 + 1) h hP hR) ⟨rfl, rfl, rfl, rfl, rfl, trivial⟩
def FX12_last_62 (L36 : Int32 → Int32 → Int32 → Int32 → ph_H → Int32 × ph_H) (x1 : Int32) (x2 : Int32) (x3 : Int32) (x4 : Int32) (h : ph_H) : Int32 × ph_H := FX12_last_63 L36 x1 x2 x4 x3 h
def PX12_last_62 (LP36 : Int32 → Int32 → Int32 → Int32 → ph_H → Prop) (x1 : Int32) (x2 : Int32) (x3 : Int32) (x4 : Int32) (h : ph_H) : Prop := PX12_last_63 LP36 x1 x2 x4 x3 h
set_option maxRecDepth 100000 in
set_option maxHeartbeats 4000000 in
theorem tX12_last_62 {X : fj_X} {Y : fj_Y} {l0 : Launch} {ad : Nat → Nat} (C : FC X Y l0 cX12_last 5 RX12 ({ frames := 1, cells := 0, slots := 0, locals := 25 } : Room) 0 0 (some .int)) (L36 : Int32 → Int32 → Int32 → Int32 → ph_H → Int32 × ph_H) (LP36 : Int32 → Int32 → Int32 → Int32 → ph_H → Prop) (hL36 : ∀ (x1 : Int32) (x2 : Int32) (x3 : Int32) (x4 : Int32) (h : ph_H), LP36 x1 x2 x3 x4 h → RETi X Y ad 50 SM cX12_last (L36 x1 x2 x3 x4 h) → FJ X Y ad 50 SM h 36 [(0, .ref (ad 0)), (1, .int x1), (2, .int x2), (3, .int x3), (4, .int x4)] []) (x1 : Int32) (x2 : Int32) (x3 : Int32) (x4 : Int32) (h : ph_H) (hP : PX12_last_62 LP36 x1 x2 x3 x4 h) (hR : RETi X Y ad 50 SM cX12_last (FX12_last_62 L36 x1 x2 x3 x4 h)) : FJ X Y ad 50 SM h 62 [(0, .ref (ad 0)), (1, .int x1), (2, .int x2), (3, .int x3), (4, .int x4)] [] := by
  unfold PX12_last_62 at hP
  unfold FX12_last_62 at hR
  refine j_iload_n C dX12_last_62 rfl rfl ?_
  exact j_vl (tX12_last_63 C L36 LP36 hL36 x1 x2 x4 x3 h hP hR) ⟨rfl, rfl, rfl, rfl, trivial⟩
def FX12_last_36  : Nat → Int32 → Int32 → Int32 → Int32 → ph_H → Int32 × ph_H
  | 0, _, _, _, _, h => (0, h)
  | q + 1, x1, x2, x3, x4, h => if x2 < x4 then ((x3, h)) else (if (h 33 (x4.toNatClampNeg)) = x1 then (if x1 < 0 then (FX12_last_62 (FX12_last_36  q) x1 x2 x3 x4 h) else (FX12_last_63 (FX12_last_36  q) x1 x2 x4 x4 h)) else (FX12_last_62 (FX12_last_36  q) x1 x2 x3 x4 h))
def PX12_last_36  : Nat → Int32 → Int32 → Int32 → Int32 → ph_H → Prop
  | 0, _, _, _, _, _ => False
  | q + 1, x1, x2, x3, x4, h => (x2 < x4 → (True)) ∧ (¬ x2 < x4 → (vp_in x4 301 ∧ (((h 33 (x4.toNatClampNeg)) = x1 → ((x1 < 0 → (PX12_last_62 (PX12_last_36  q) x1 x2 x3 x4 h)) ∧ (¬ x1 < 0 → (PX12_last_63 (PX12_last_36  q) x1 x2 x4 x4 h)))) ∧ (¬ (h 33 (x4.toNatClampNeg)) = x1 → (PX12_last_62 (PX12_last_36  q) x1 x2 x3 x4 h)))))
set_option maxRecDepth 100000 in
set_option maxHeartbeats 4000000 in
theorem tX12_last_36 {X : fj_X} {Y : fj_Y} {l0 : Launch} {ad : Nat → Nat} (C : FC X Y l0 cX12_last 5 RX12 ({ frames := 1, cells := 0, slots := 0, locals := 25 } : Room) 0 0 (some .int)) : ∀ (q : Nat) (x1 : Int32) (x2 : Int32) (x3 : Int32) (x4 : Int32) (h : ph_H), PX12_last_36  q x1 x2 x3 x4 h → RETi X Y ad 50 SM cX12_last (FX12_last_36  q x1 x2 x3 x4 h) → FJ X Y ad 50 SM h 36 [(0, .ref (ad 0)), (1, .int x1), (2, .int x2), (3, .int x3), (4, .int x4)] [] := by
  intro q
  induction q with
  | zero =>
    intro x1 x2 x3 x4 h hP hR
    exact absurd hP id
  | succ q ih =>
    intro x1 x2 x3 x4 h hP hR
    unfold PX12_last_36 at hP
    unfold FX12_last_36 at hR
    refine j_iload C dX12_last_36 rfl ?_
    refine j_iload_n C dX12_last_38 rfl rfl ?_
    refine j_icmp_gt (tgt := 70) C dX12_last_39 (by decide) (fun c0 => ?_) (fun c0 => ?_)
    · have hP := hP.1 c0
      rw [if_pos c0] at hR
      refine j_iload_n C dX12_last_70 rfl rfl ?_
      exact hR _ _ dX12_last_71
    · have hP := hP.2 c0
      rw [if_neg c0] at hR
      refine j_aload_n C dX12_last_42 rfl rfl ?_
      refine gM_108 C dX12_last_43 ?_
      refine j_iload C dX12_last_46 rfl ?_
      obtain ⟨p3, hP⟩ := hP
      refine j_iald (k := 33) (v := (h 33 (x4.toNatClampNeg))) C dX12_last_48 (by decide) rfl p3 rfl ?_
      refine j_iload_n C dX12_last_49 rfl rfl ?_
      refine j_icmp_ne (tgt := 62) C dX12_last_50 (by decide) (fun c1 => ?_) (fun c1 => ?_)
      · have hP := hP.2 c1
        rw [if_neg c1] at hR
        exact j_vl (tX12_last_62 C (FX12_last_36  q) (PX12_last_36  q) (ih) x1 x2 x3 x4 h hP hR) ⟨rfl, rfl, rfl, rfl, rfl, trivial⟩
      · have hP := hP.1 c1
        rw [if_pos c1] at hR
        refine j_iload_n C dX12_last_53 rfl rfl ?_
        refine j_if_lt (tgt := 62) C dX12_last_54 (by decide) (fun c2 => ?_) (fun c2 => ?_)
        · have hP := hP.1 c2
          rw [if_pos c2] at hR
          exact j_vl (tX12_last_62 C (FX12_last_36  q) (PX12_last_36  q) (ih) x1 x2 x3 x4 h hP hR) ⟨rfl, rfl, rfl, rfl, rfl, trivial⟩
        · have hP := hP.2 c2
          rw [if_neg c2] at hR
          refine j_iload C dX12_last_57 rfl ?_
          refine j_goto (tgt := 63) C dX12_last_59 (by decide) ?_
          exact j_vl (tX12_last_63 C (FX12_last_36  q) (PX12_last_36  q) (ih) x1 x2 x4 x4 h hP hR) ⟨rfl, rfl, rfl, rfl, trivial⟩
def FX12_last (a0 : Int32) (a1 : Int32) (h : ph_H) : Int32 × ph_H := if (h 0 36) = 0 then (((-2), (hs h 0 0 0))) else (if (FX12_isIn a1.toInt64 0 ((h 0 38).toInt64)) = 0 then (((-1), (hs h 0 0 0))) else (FX12_last_36 2000 a0 a1 0 1 (hs h 0 0 0)))
def PX12_last (a0 : Int32) (a1 : Int32) (h : ph_H) : Prop := ((h 0 36) = 0 → (True)) ∧ (¬ (h 0 36) = 0 → ((PX12_isIn a1.toInt64 0 ((h 0 38).toInt64)) ∧ (((FX12_isIn a1.toInt64 0 ((h 0 38).toInt64)) = 0 → (True)) ∧ (¬ (FX12_isIn a1.toInt64 0 ((h 0 38).toInt64)) = 0 → (PX12_last_36 2000 a0 a1 0 1 (hs h 0 0 0))))))
set_option maxRecDepth 100000 in
set_option maxHeartbeats 4000000 in
theorem tX12_last {X : fj_X} {Y : fj_Y} {l0 : Launch} {ad : Nat → Nat} (C : FC X Y l0 cX12_last 5 RX12 ({ frames := 1, cells := 0, slots := 0, locals := 25 } : Room) 0 0 (some .int)) (a0 : Int32) (a1 : Int32) (h : ph_H) (hP : PX12_last a0 a1 h) (hR : RETi X Y ad 50 SM cX12_last (FX12_last a0 a1 h)) : FJ X Y ad 50 SM h 0 [(0, .ref (ad 0)), (1, .int a0), (2, .int a1)] [] := by
  unfold PX12_last at hP
  unfold FX12_last at hR
  refine j_aload_n C dX12_last_0 rfl rfl ?_
  refine j_iconst (v := 0) C dX12_last_1 (by decide) ?_
  refine pM_164 C dX12_last_2 ?_
  refine j_aload_n C dX12_last_5 rfl rfl ?_
  refine gM_294 (v := (h 0 36)) C dX12_last_6 (hz_i (by decide)) ?_
  refine j_if_ne (tgt := 15) C dX12_last_9 (by decide) (fun c0 => ?_) (fun c0 => ?_)
  · have hP := hP.2 c0
    rw [if_neg c0] at hR
    refine j_iload_n C dX12_last_15 rfl rfl ?_
    refine j_i2l C dX12_last_16 ?_
    refine j_lconst (v := 0) C dX12_last_17 (by decide) ?_
    refine j_aload_n C dX12_last_18 rfl rfl ?_
    refine gM_304 (v := (h 0 38)) C dX12_last_19 (hz_i (by decide)) ?_
    refine j_i2l C dX12_last_22 ?_
    obtain ⟨p6, hP⟩ := hP
    refine j_callS C (MX12_isIn a1.toInt64 0 ((h 0 38).toInt64) (hs h 0 0 0) p6) dX12_last_23 (CKX12_isIn (by decide)) ⟨rfl, rfl⟩ lk_RX12_169 st_X12_isIn rfl (Nat.le_of_ble_eq_true rfl) ?_
    intro r S' h' hq
    obtain ⟨rfl, hh, rfl, hb8⟩ := hq
    rw [hh]
    refine j_if_ne (tgt := 31) C dX12_last_26 (by decide) (fun c1 => ?_) (fun c1 => ?_)
    · have hP := hP.2 c1
      rw [if_neg c1] at hR
      refine j_iconst (v := 0) C dX12_last_31 (by decide) ?_
      refine j_istore_n C dX12_last_32 rfl (by decide) rfl ?_
      refine j_iconst (v := 1) C dX12_last_33 (by decide) ?_
      refine j_istore C dX12_last_34 (by decide) rfl ?_
      exact j_vl (tX12_last_36 C 2000 a0 a1 0 1 (hs h 0 0 0) hP hR) ⟨rfl, rfl, rfl, rfl, rfl, trivial⟩
    · have hP := hP.1 c1
      rw [if_pos c1] at hR
      refine j_iconst (v := (-1)) C dX12_last_29 (by decide) ?_
      exact hR _ _ dX12_last_30
  · have hP := hP.1 c0
    rw [if_pos c0] at hR
    refine j_bipush (v := (-2)) C dX12_last_12 (by decide) ?_
    exact hR _ _ dX12_last_14
theorem MX12_last {l0 : Launch} {Y : fj_Y} {ad : Nat → Nat} (a0 : Int32) (a1 : Int32) (h : ph_H) (hP : PX12_last a0 a1 h) : MI l0 yX12_last cX12_last 5 (some .int) ({ frames := 1, cells := 0, slots := 0, locals := 25 } : Room) Y ad 50 SM h [.ref (ad 0), .int a0, .int a1] (fun r S' h' => S' = SM ∧ h' = (FX12_last a0 a1 h).2 ∧ r = (FX12_last a0 a1 h).1) := met_i (by decide) (Nat.le_of_ble_eq_true rfl) (fun _ _ _ _ => rfl) (fun X C K => j_vl (tX12_last C a0 a1 h hP (fun pc lv hd => K _ _ _ ⟨rfl, rfl, rfl⟩ pc lv hd)) ⟨rfl, rfl, rfl, trivial⟩)

-- X12_next
def FX12_next_59 (L35 : Int32 → Int32 → ph_H → Int32 × ph_H) (x1 : Int32) (x3 : Int32) (h : ph_H) : Int32 × ph_H := L35 x1 (x3 + 1) h
def PX12_next_59 (LP35 : Int32 → Int32 → ph_H → Prop) (x1 : Int32) (x3 : Int32) (h : ph_H) : Prop := LP35 x1 (x3 + 1) h
set_option maxRecDepth 100000 in
set_option maxHeartbeats 4000000 in
theorem tX12_next_59 {X : fj_X} {Y : fj_Y} {l0 : Launch} {ad : Nat → Nat} (C : FC X Y l0 cX12_next 4 RX12 ({ frames := 1, cells := 0, slots := 0, locals := 25 } : Room) 0 0 (some .int)) (L35 : Int32 → Int32 → ph_H → Int32 × ph_H) (LP35 : Int32 → Int32 → ph_H → Prop) (hL35 : ∀ (x1 : Int32) (x3 : Int32) (h : ph_H), LP35 x1 x3 h → RETi X Y ad 50 SM cX12_next (L35 x1 x3 h) → FJ X Y ad 50 SM h 35 [(0, .ref (ad 0)), (1, .int x1), (3, .int x3)] []) (x1 : Int32) (x3 : Int32) (h : ph_H) (hP : PX12_next_59 LP35 x1 x3 h) (hR : RETi X Y ad 50 SM cX12_next (FX12_next_59 L35 x1 x3 h)) : FJ X Y ad 50 SM h 59 [(0, .ref (ad 0)), (1, .int x1), (3, .int x3)] [] := by
  unfold PX12_next_59 at hP
  unfold FX12_next_59 at hR
  refine j_iinc (v := (x3 + 1)) C dX12_next_59 rfl rfl (by decide) rfl ?_
  refine j_goto (tgt := 35) C dX12_next_62 (by decide) ?_
  exact j_vl (hL35 x1 (x3 + 1) h hP hR) ⟨rfl, rfl, rfl, trivial⟩
def FX12_next_35  : Nat → Int32 → Int32 → ph_H → Int32 × ph_H
  | 0, _, _, h => (0, h)
  | q + 1, x1, x3, h => if (h 0 38) < x3 then ((0, h)) else (if (h 32 (x3.toNatClampNeg)) = x1 then (if x1 < 0 then (FX12_next_59 (FX12_next_35  q) x1 x3 h) else ((x3, h))) else (FX12_next_59 (FX12_next_35  q) x1 x3 h))
def PX12_next_35  : Nat → Int32 → Int32 → ph_H → Prop
  | 0, _, _, _ => False
  | q + 1, x1, x3, h => ((h 0 38) < x3 → (True)) ∧ (¬ (h 0 38) < x3 → (vp_in x3 301 ∧ (((h 32 (x3.toNatClampNeg)) = x1 → ((x1 < 0 → (PX12_next_59 (PX12_next_35  q) x1 x3 h)) ∧ (¬ x1 < 0 → (True)))) ∧ (¬ (h 32 (x3.toNatClampNeg)) = x1 → (PX12_next_59 (PX12_next_35  q) x1 x3 h)))))
set_option maxRecDepth 100000 in
set_option maxHeartbeats 4000000 in
theorem tX12_next_35 {X : fj_X} {Y : fj_Y} {l0 : Launch} {ad : Nat → Nat} (C : FC X Y l0 cX12_next 4 RX12 ({ frames := 1, cells := 0, slots := 0, locals := 25 } : Room) 0 0 (some .int)) : ∀ (q : Nat) (x1 : Int32) (x3 : Int32) (h : ph_H), PX12_next_35  q x1 x3 h → RETi X Y ad 50 SM cX12_next (FX12_next_35  q x1 x3 h) → FJ X Y ad 50 SM h 35 [(0, .ref (ad 0)), (1, .int x1), (3, .int x3)] [] := by
  intro q
  induction q with
  | zero =>
    intro x1 x3 h hP hR
    exact absurd hP id
  | succ q ih =>
    intro x1 x3 h hP hR
    unfold PX12_next_35 at hP
    unfold FX12_next_35 at hR
    refine j_iload_n C dX12_next_35 rfl rfl ?_
    refine j_aload_n C dX12_next_36 rfl rfl ?_
    refine gM_304 (v := (h 0 38)) C dX12_next_37 rfl ?_
    refine j_icmp_gt (tgt := 65) C dX12_next_40 (by decide) (fun c0 => ?_) (fun c0 => ?_)
    · have hP := hP.1 c0
      rw [if_pos c0] at hR
      refine j_iconst (v := 0) C dX12_next_65 (by decide) ?_
      exact hR _ _ dX12_next_66
    · have hP := hP.2 c0
      rw [if_neg c0] at hR
      refine j_aload_n C dX12_next_43 rfl rfl ?_
      refine gM_105 C dX12_next_44 ?_
      refine j_iload_n C dX12_next_47 rfl rfl ?_
      obtain ⟨p3, hP⟩ := hP
      refine j_iald (k := 32) (v := (h 32 (x3.toNatClampNeg))) C dX12_next_48 (by decide) rfl p3 rfl ?_
      refine j_iload_n C dX12_next_49 rfl rfl ?_
      refine j_icmp_ne (tgt := 59) C dX12_next_50 (by decide) (fun c1 => ?_) (fun c1 => ?_)
      · have hP := hP.2 c1
        rw [if_neg c1] at hR
        exact j_vl (tX12_next_59 C (FX12_next_35  q) (PX12_next_35  q) (ih) x1 x3 h hP hR) ⟨rfl, rfl, rfl, trivial⟩
      · have hP := hP.1 c1
        rw [if_pos c1] at hR
        refine j_iload_n C dX12_next_53 rfl rfl ?_
        refine j_if_lt (tgt := 59) C dX12_next_54 (by decide) (fun c2 => ?_) (fun c2 => ?_)
        · have hP := hP.1 c2
          rw [if_pos c2] at hR
          exact j_vl (tX12_next_59 C (FX12_next_35  q) (PX12_next_35  q) (ih) x1 x3 h hP hR) ⟨rfl, rfl, rfl, trivial⟩
        · have hP := hP.2 c2
          rw [if_neg c2] at hR
          refine j_iload_n C dX12_next_57 rfl rfl ?_
          exact hR _ _ dX12_next_58
def FX12_next (a0 : Int32) (a1 : Int32) (h : ph_H) : Int32 × ph_H := if (h 0 36) = 0 then (((-2), (hs h 0 0 0))) else (if (FX12_isIn a1.toInt64 0 ((h 0 38).toInt64)) = 0 then (((-1), (hs h 0 0 0))) else (FX12_next_35 2000 a0 (a1 + 1) (hs h 0 0 0)))
def PX12_next (a0 : Int32) (a1 : Int32) (h : ph_H) : Prop := ((h 0 36) = 0 → (True)) ∧ (¬ (h 0 36) = 0 → ((PX12_isIn a1.toInt64 0 ((h 0 38).toInt64)) ∧ (((FX12_isIn a1.toInt64 0 ((h 0 38).toInt64)) = 0 → (True)) ∧ (¬ (FX12_isIn a1.toInt64 0 ((h 0 38).toInt64)) = 0 → (PX12_next_35 2000 a0 (a1 + 1) (hs h 0 0 0))))))
set_option maxRecDepth 100000 in
set_option maxHeartbeats 4000000 in
theorem tX12_next {X : fj_X} {Y : fj_Y} {l0 : Launch} {ad : Nat → Nat} (C : FC X Y l0 cX12_next 4 RX12 ({ frames := 1, cells := 0, slots := 0, locals := 25 } : Room) 0 0 (some .int)) (a0 : Int32) (a1 : Int32) (h : ph_H) (hP : PX12_next a0 a1 h) (hR : RETi X Y ad 50 SM cX12_next (FX12_next a0 a1 h)) : FJ X Y ad 50 SM h 0 [(0, .ref (ad 0)), (1, .int a0), (2, .int a1)] [] := by
  unfold PX12_next at hP
  unfold FX12_next at hR
  refine j_aload_n C dX12_next_0 rfl rfl ?_
  refine j_iconst (v := 0) C dX12_next_1 (by decide) ?_
  refine pM_164 C dX12_next_2 ?_
  refine j_aload_n C dX12_next_5 rfl rfl ?_
  refine gM_294 (v := (h 0 36)) C dX12_next_6 (hz_i (by decide)) ?_
  refine j_if_ne (tgt := 15) C dX12_next_9 (by decide) (fun c0 => ?_) (fun c0 => ?_)
  · have hP := hP.2 c0
    rw [if_neg c0] at hR
    refine j_iload_n C dX12_next_15 rfl rfl ?_
    refine j_i2l C dX12_next_16 ?_
    refine j_lconst (v := 0) C dX12_next_17 (by decide) ?_
    refine j_aload_n C dX12_next_18 rfl rfl ?_
    refine gM_304 (v := (h 0 38)) C dX12_next_19 (hz_i (by decide)) ?_
    refine j_i2l C dX12_next_22 ?_
    obtain ⟨p6, hP⟩ := hP
    refine j_callS C (MX12_isIn a1.toInt64 0 ((h 0 38).toInt64) (hs h 0 0 0) p6) dX12_next_23 (CKX12_isIn (by decide)) ⟨rfl, rfl⟩ lk_RX12_169 st_X12_isIn rfl (Nat.le_of_ble_eq_true rfl) ?_
    intro r S' h' hq
    obtain ⟨rfl, hh, rfl, hb8⟩ := hq
    rw [hh]
    refine j_if_ne (tgt := 31) C dX12_next_26 (by decide) (fun c1 => ?_) (fun c1 => ?_)
    · have hP := hP.2 c1
      rw [if_neg c1] at hR
      refine j_iload_n C dX12_next_31 rfl rfl ?_
      refine j_iconst (v := 1) C dX12_next_32 (by decide) ?_
      refine j_iadd C dX12_next_33 ?_
      refine j_istore_n C dX12_next_34 rfl (by decide) rfl ?_
      exact j_vl (tX12_next_35 C 2000 a0 (a1 + 1) (hs h 0 0 0) hP hR) ⟨rfl, rfl, rfl, trivial⟩
    · have hP := hP.1 c1
      rw [if_pos c1] at hR
      refine j_iconst (v := (-1)) C dX12_next_29 (by decide) ?_
      exact hR _ _ dX12_next_30
  · have hP := hP.1 c0
    rw [if_pos c0] at hR
    refine j_bipush (v := (-2)) C dX12_next_12 (by decide) ?_
    exact hR _ _ dX12_next_14
theorem MX12_next {l0 : Launch} {Y : fj_Y} {ad : Nat → Nat} (a0 : Int32) (a1 : Int32) (h : ph_H) (hP : PX12_next a0 a1 h) : MI l0 yX12_next cX12_next 4 (some .int) ({ frames := 1, cells := 0, slots := 0, locals := 25 } : Room) Y ad 50 SM h [.ref (ad 0), .int a0, .int a1] (fun r S' h' => S' = SM ∧ h' = (FX12_next a0 a1 h).2 ∧ r = (FX12_next a0 a1 h).1) := met_i (by decide) (Nat.le_of_ble_eq_true rfl) (fun _ _ _ _ => rfl) (fun X C K => j_vl (tX12_next C a0 a1 h hP (fun pc lv hd => K _ _ _ ⟨rfl, rfl, rfl⟩ pc lv hd)) ⟨rfl, rfl, rfl, trivial⟩)
end MG_08_m05
section MG_08_m06
-- X12_when
def FX12_when_166 (L54 : Int32 → Int32 → Int32 → Int32 → Int32 → Int32 → Int32 → Int32 → ph_H → Int32 × ph_H) (x1 : Int32) (x2 : Int32) (x3 : Int32) (x4 : Int32) (x5 : Int32) (x7 : Int32) (x8 : Int32) (x9 : Int32) (h : ph_H) : Int32 × ph_H := L54 x1 x2 x3 x4 x5 x9 x7 (x8 + 1) h
def PX12_when_166 (LP54 : Int32 → Int32 → Int32 → Int32 → Int32 → Int32 → Int32 → Int32 → ph_H → Prop) (x1 : Int32) (x2 : Int32) (x3 : Int32) (x4 : Int32) (x5 : Int32) (x7 : Int32) (x8 : Int32) (x9 : Int32) (h : ph_H) : Prop := LP54 x1 x2 x3 x4 x5 x9 x7 (x8 + 1) h
set_option maxRecDepth 100000 in
set_option maxHeartbeats 4000000 in
theorem tX12_when_166 {X : fj_X} {Y : fj_Y} {l0 : Launch} {ad : Nat → Nat} (C : FC X Y l0 cX12_when 10 RX12 ({ frames := 1, cells := 0, slots := 0, locals := 25 } : Room) 0 0 (some .int)) (L54 : Int32 → Int32 → Int32 → Int32 → Int32 → Int32 → Int32 → Int32 → ph_H → Int32 × ph_H) (LP54 : Int32 → Int32 → Int32 → Int32 → Int32 → Int32 → Int32 → Int32 → ph_H → Prop) (hL54 : ∀ (x1 : Int32) (x2 : Int32) (x3 : Int32) (x4 : Int32) (x5 : Int32) (x6 : Int32) (x7 : Int32) (x8 : Int32) (h : ph_H), LP54 x1 x2 x3 x4 x5 x6 x7 x8 h → RETi X Y ad 50 SM cX12_when (L54 x1 x2 x3 x4 x5 x6 x7 x8 h) → FJ X Y ad 50 SM h 54 [(0, .ref (ad 0)), (1, .int x1), (2, .int x2), (3, .int x3), (4, .int x4), (5, .int x5), (6, .int x6), (7, .int x7), (8, .int x8)] []) (x1 : Int32) (x2 : Int32) (x3 : Int32) (x4 : Int32) (x5 : Int32) (x7 : Int32) (x8 : Int32) (x9 : Int32) (h : ph_H) (hP : PX12_when_166 LP54 x1 x2 x3 x4 x5 x7 x8 x9 h) (hR : RETi X Y ad 50 SM cX12_when (FX12_when_166 L54 x1 x2 x3 x4 x5 x7 x8 x9 h)) : FJ X Y ad 50 SM h 166 [(0, .ref (ad 0)), (1, .int x1), (2, .int x2), (3, .int x3), (4, .int x4), (5, .int x5), (7, .int x7), (8, .int x8), (9, .int x9)] [] := by
  unfold PX12_when_166 at hP
  unfold FX12_when_166 at hR
  refine j_iload C dX12_when_166 rfl ?_
  refine j_istore C dX12_when_168 (by decide) rfl ?_
  refine j_iinc (v := (x8 + 1)) C dX12_when_170 rfl rfl (by decide) rfl ?_
  refine j_goto (tgt := 54) C dX12_when_173 (by decide) ?_
  exact j_vl (hL54 x1 x2 x3 x4 x5 x9 x7 (x8 + 1) h hP hR) ⟨rfl, rfl, rfl, rfl, rfl, rfl, rfl, rfl, rfl, trivial⟩
def FX12_when_163 (L54 : Int32 → Int32 → Int32 → Int32 → Int32 → Int32 → Int32 → Int32 → ph_H → Int32 × ph_H) (x1 : Int32) (x2 : Int32) (x3 : Int32) (x4 : Int32) (x5 : Int32) (x7 : Int32) (x8 : Int32) (x9 : Int32) (h : ph_H) : Int32 × ph_H := FX12_when_166 L54 x1 x2 x3 x4 (x5 + 1) x7 x8 x9 h
def PX12_when_163 (LP54 : Int32 → Int32 → Int32 → Int32 → Int32 → Int32 → Int32 → Int32 → ph_H → Prop) (x1 : Int32) (x2 : Int32) (x3 : Int32) (x4 : Int32) (x5 : Int32) (x7 : Int32) (x8 : Int32) (x9 : Int32) (h : ph_H) : Prop := PX12_when_166 LP54 x1 x2 x3 x4 (x5 + 1) x7 x8 x9 h
set_option maxRecDepth 100000 in
set_option maxHeartbeats 4000000 in
theorem tX12_when_163 {X : fj_X} {Y : fj_Y} {l0 : Launch} {ad : Nat → Nat} (C : FC X Y l0 cX12_when 10 RX12 ({ frames := 1, cells := 0, slots := 0, locals := 25 } : Room) 0 0 (some .int)) (L54 : Int32 → Int32 → Int32 → Int32 → Int32 → Int32 → Int32 → Int32 → ph_H → Int32 × ph_H) (LP54 : Int32 → Int32 → Int32 → Int32 → Int32 → Int32 → Int32 → Int32 → ph_H → Prop) (hL54 : ∀ (x1 : Int32) (x2 : Int32) (x3 : Int32) (x4 : Int32) (x5 : Int32) (x6 : Int32) (x7 : Int32) (x8 : Int32) (h : ph_H), LP54 x1 x2 x3 x4 x5 x6 x7 x8 h → RETi X Y ad 50 SM cX12_when (L54 x1 x2 x3 x4 x5 x6 x7 x8 h) → FJ X Y ad 50 SM h 54 [(0, .ref (ad 0)), (1, .int x1), (2, .int x2), (3, .int x3), (4, .int x4), (5, .int x5), (6, .int x6), (7, .int x7), (8, .int x8)] []) (x1 : Int32) (x2 : Int32) (x3 : Int32) (x4 : Int32) (x5 : Int32) (x7 : Int32) (x8 : Int32) (x9 : Int32) (h : ph_H) (hP : PX12_when_163 LP54 x1 x2 x3 x4 x5 x7 x8 x9 h) (hR : RETi X Y ad 50 SM cX12_when (FX12_when_163 L54 x1 x2 x3 x4 x5 x7 x8 x9 h)) : FJ X Y ad 50 SM h 163 [(0, .ref (ad 0)), (1, .int x1), (2, .int x2), (3, .int x3), (4, .int x4), (5, .int x5), (7, .int x7), (8, .int x8), (9, .int x9)] [] := by
  unfold PX12_when_163 at hP
  unfold FX12_when_163 at hR
  refine j_iinc (v := (x5 + 1)) C dX12_when_163 rfl rfl (by decide) rfl ?_
  exact j_vl (tX12_when_166 C L54 LP54 hL54 x1 x2 x3 x4 (x5 + 1) x7 x8 x9 h hP hR) ⟨rfl, rfl, rfl, rfl, rfl, rfl, rfl, rfl, rfl, trivial⟩
def FX12_when_126 (L54 : Int32 → Int32 → Int32 → Int32 → Int32 → Int32 → Int32 → Int32 → ph_H → Int32 × ph_H) (x1 : Int32) (x2 : Int32) (x3 : Int32) (x4 : Int32) (x5 : Int32) (x6 : Int32) (x7 : Int32) (x8 : Int32) (x9 : Int32) (h : ph_H) : Int32 × ph_H := if x9 = 0 then (if x6 = 0 then (FX12_when_166 L54 x1 x2 x3 x4 x5 x7 x8 x9 h) else (if x5 = x3 then (if x4 ≤ 0 then (FX12_when_163 L54 x1 x2 x3 x4 x5 x7 x8 x9 h) else (if x4 = 1 then ((x7, h)) else (((x8 - 1), h)))) else (FX12_when_163 L54 x1 x2 x3 x4 x5 x7 x8 x9 h))) else (FX12_when_166 L54 x1 x2 x3 x4 x5 x7 x8 x9 h)
def PX12_when_126 (LP54 : Int32 → Int32 → Int32 → Int32 → Int32 → Int32 → Int32 → Int32 → ph_H → Prop) (x1 : Int32) (x2 : Int32) (x3 : Int32) (x4 : Int32) (x5 : Int32) (x6 : Int32) (x7 : Int32) (x8 : Int32) (x9 : Int32) (h : ph_H) : Prop := (x9 = 0 → ((x6 = 0 → (PX12_when_166 LP54 x1 x2 x3 x4 x5 x7 x8 x9 h)) ∧ (¬ x6 = 0 → ((x5 = x3 → ((x4 ≤ 0 → (PX12_when_163 LP54 x1 x2 x3 x4 x5 x7 x8 x9 h)) ∧ (¬ x4 ≤ 0 → ((x4 = 1 → (True)) ∧ (¬ x4 = 1 → (True)))))) ∧ (¬ x5 = x3 → (PX12_when_163 LP54 x1 x2 x3 x4 x5 x7 x8 x9 h)))))) ∧ (¬ x9 = 0 → (PX12_when_166 LP54 x1 x2 x3 x4 x5 x7 x8 x9 h))
set_option maxRecDepth 100000 in
set_option maxHeartbeats 4000000 in
theorem tX12_when_126 {X : fj_X} {Y : fj_Y} {l0 : Launch} {ad : Nat → Nat} (C : FC X Y l0 cX12_when 10 RX12 ({ frames := 1, cells := 0, slots := 0, locals := 25 } : Room) 0 0 (some .int)) (L54 : Int32 → Int32 → Int32 → Int32 → Int32 → Int32 → Int32 → Int32 → ph_H → Int32 × ph_H) (LP54 : Int32 → Int32 → Int32 → Int32 → Int32 → Int32 → Int32 → Int32 → ph_H → Prop) (hL54 : ∀ (x1 : Int32) (x2 : Int32) (x3 : Int32) (x4 : Int32) (x5 : Int32) (x6 : Int32) (x7 : Int32) (x8 : Int32) (h : ph_H), LP54 x1 x2 x3 x4 x5 x6 x7 x8 h → RETi X Y ad 50 SM cX12_when (L54 x1 x2 x3 x4 x5 x6 x7 x8 h) → FJ X Y ad 50 SM h 54 [(0, .ref (ad 0)), (1, .int x1), (2, .int x2), (3, .int x3), (4, .int x4), (5, .int x5), (6, .int x6), (7, .int x7), (8, .int x8)] []) (x1 : Int32) (x2 : Int32) (x3 : Int32) (x4 : Int32) (x5 : Int32) (x6 : Int32) (x7 : Int32) (x8 : Int32) (x9 : Int32) (h : ph_H) (hP : PX12_when_126 LP54 x1 x2 x3 x4 x5 x6 x7 x8 x9 h) (hR : RETi X Y ad 50 SM cX12_when (FX12_when_126 L54 x1 x2 x3 x4 x5 x6 x7 x8 x9 h)) : FJ X Y ad 50 SM h 126 [(0, .ref (ad 0)), (1, .int x1), (2, .int x2), (3, .int x3), (4, .int x4), (5, .int x5), (6, .int x6), (7, .int x7), (8, .int x8), (9, .int x9)] [] := by
  unfold PX12_when_126 at hP
  unfold FX12_when_126 at hR
  refine j_iload C dX12_when_126 rfl ?_
  refine j_if_ne (tgt := 166) C dX12_when_128 (by decide) (fun c0 => ?_) (fun c0 => ?_)
  · have hP := hP.2 c0
    rw [if_neg c0] at hR
    exact j_vl (tX12_when_166 C L54 LP54 hL54 x1 x2 x3 x4 x5 x7 x8 x9 h hP hR) ⟨rfl, rfl, rfl, rfl, rfl, rfl, rfl, rfl, rfl, trivial⟩
  · have hP := hP.1 c0
    rw [if_pos c0] at hR
    refine j_iload C dX12_when_131 rfl ?_
    refine j_if_eq (tgt := 166) C dX12_when_133 (by decide) (fun c1 => ?_) (fun c1 => ?_)
    · have hP := hP.1 c1
      rw [if_pos c1] at hR
      exact j_vl (tX12_when_166 C L54 LP54 hL54 x1 x2 x3 x4 x5 x7 x8 x9 h hP hR) ⟨rfl, rfl, rfl, rfl, rfl, rfl, rfl, rfl, rfl, trivial⟩
    · have hP := hP.2 c1
      rw [if_neg c1] at hR
      refine j_iload C dX12_when_136 rfl ?_
      refine j_iload_n C dX12_when_138 rfl rfl ?_
      refine j_icmp_ne (tgt := 163) C dX12_when_139 (by decide) (fun c2 => ?_) (fun c2 => ?_)
      · have hP := hP.2 c2
        rw [if_neg c2] at hR
        exact j_vl (tX12_when_163 C L54 LP54 hL54 x1 x2 x3 x4 x5 x7 x8 x9 h hP hR) ⟨rfl, rfl, rfl, rfl, rfl, rfl, rfl, rfl, rfl, trivial⟩
      · have hP := hP.1 c2
        rw [if_pos c2] at hR
        refine j_iload C dX12_when_142 rfl ?_
        refine j_if_le (tgt := 163) C dX12_when_144 (by decide) (fun c3 => ?_) (fun c3 => ?_)
        · have hP := hP.1 c3
          rw [if_pos c3] at hR
          exact j_vl (tX12_when_163 C L54 LP54 hL54 x1 x2 x3 x4 x5 x7 x8 x9 h hP hR) ⟨rfl, rfl, rfl, rfl, rfl, rfl, rfl, rfl, rfl, trivial⟩
        · have hP := hP.2 c3
          rw [if_neg c3] at hR
          refine j_iload C dX12_when_147 rfl ?_
          refine j_iconst (v := 1) C dX12_when_149 (by decide) ?_
          refine j_icmp_ne (tgt := 158) C dX12_when_150 (by decide) (fun c4 => ?_) (fun c4 => ?_)
          · have hP := hP.2 c4
            rw [if_neg c4] at hR
            refine j_iload C dX12_when_158 rfl ?_
            refine j_iconst (v := 1) C dX12_when_160 (by decide) ?_
            refine j_isub C dX12_when_161 ?_
            exact hR _ _ dX12_when_162
          · have hP := hP.1 c4
            rw [if_pos c4] at hR
            refine j_iload C dX12_when_153 rfl ?_
            refine j_goto (tgt := 162) C dX12_when_155 (by decide) ?_
            exact hR _ _ dX12_when_162
def FX12_when_110 (L54 : Int32 → Int32 → Int32 → Int32 → Int32 → Int32 → Int32 → Int32 → ph_H → Int32 × ph_H) (x1 : Int32) (x2 : Int32) (x3 : Int32) (x4 : Int32) (x5 : Int32) (x6 : Int32) (x7 : Int32) (x8 : Int32) (s0 : Int32) (h : ph_H) : Int32 × ph_H := if s0 = 0 then (FX12_when_126 L54 x1 x2 x3 x4 x5 x6 x7 x8 s0 h) else (if x6 = 0 then (FX12_when_126 L54 x1 x2 x3 x4 x5 x6 x8 x8 s0 h) else (FX12_when_126 L54 x1 x2 x3 x4 x5 x6 x7 x8 s0 h))
def PX12_when_110 (LP54 : Int32 → Int32 → Int32 → Int32 → Int32 → Int32 → Int32 → Int32 → ph_H → Prop) (x1 : Int32) (x2 : Int32) (x3 : Int32) (x4 : Int32) (x5 : Int32) (x6 : Int32) (x7 : Int32) (x8 : Int32) (s0 : Int32) (h : ph_H) : Prop := (s0 = 0 → (PX12_when_126 LP54 x1 x2 x3 x4 x5 x6 x7 x8 s0 h)) ∧ (¬ s0 = 0 → ((x6 = 0 → (PX12_when_126 LP54 x1 x2 x3 x4 x5 x6 x8 x8 s0 h)) ∧ (¬ x6 = 0 → (PX12_when_126 LP54 x1 x2 x3 x4 x5 x6 x7 x8 s0 h))))
set_option maxRecDepth 100000 in
set_option maxHeartbeats 4000000 in
theorem tX12_when_110 {X : fj_X} {Y : fj_Y} {l0 : Launch} {ad : Nat → Nat} (C : FC X Y l0 cX12_when 10 RX12 ({ frames := 1, cells := 0, slots := 0, locals := 25 } : Room) 0 0 (some .int)) (L54 : Int32 → Int32 → Int32 → Int32 → Int32 → Int32 → Int32 → Int32 → ph_H → Int32 × ph_H) (LP54 : Int32 → Int32 → Int32 → Int32 → Int32 → Int32 → Int32 → Int32 → ph_H → Prop) (hL54 : ∀ (x1 : Int32) (x2 : Int32) (x3 : Int32) (x4 : Int32) (x5 : Int32) (x6 : Int32) (x7 : Int32) (x8 : Int32) (h : ph_H), LP54 x1 x2 x3 x4 x5 x6 x7 x8 h → RETi X Y ad 50 SM cX12_when (L54 x1 x2 x3 x4 x5 x6 x7 x8 h) → FJ X Y ad 50 SM h 54 [(0, .ref (ad 0)), (1, .int x1), (2, .int x2), (3, .int x3), (4, .int x4), (5, .int x5), (6, .int x6), (7, .int x7), (8, .int x8)] []) (x1 : Int32) (x2 : Int32) (x3 : Int32) (x4 : Int32) (x5 : Int32) (x6 : Int32) (x7 : Int32) (x8 : Int32) (s0 : Int32) (h : ph_H) (hP : PX12_when_110 LP54 x1 x2 x3 x4 x5 x6 x7 x8 s0 h) (hR : RETi X Y ad 50 SM cX12_when (FX12_when_110 L54 x1 x2 x3 x4 x5 x6 x7 x8 s0 h)) : FJ X Y ad 50 SM h 110 [(0, .ref (ad 0)), (1, .int x1), (2, .int x2), (3, .int x3), (4, .int x4), (5, .int x5), (6, .int x6), (7, .int x7), (8, .int x8)] [.int s0] := by
  unfold PX12_when_110 at hP
  unfold FX12_when_110 at hR
  refine j_istore C dX12_when_110 (by decide) rfl ?_
  refine j_iload C dX12_when_112 rfl ?_
  refine j_if_eq (tgt := 126) C dX12_when_114 (by decide) (fun c0 => ?_) (fun c0 => ?_)
  · have hP := hP.1 c0
    rw [if_pos c0] at hR
    exact j_vl (tX12_when_126 C L54 LP54 hL54 x1 x2 x3 x4 x5 x6 x7 x8 s0 h hP hR) ⟨rfl, rfl, rfl, rfl, rfl, rfl, rfl, rfl, rfl, rfl, trivial⟩
  · have hP := hP.2 c0
    rw [if_neg c0] at hR
    refine j_iload C dX12_when_117 rfl ?_
    refine j_if_ne (tgt := 126) C dX12_when_119 (by decide) (fun c1 => ?_) (fun c1 => ?_)
    · have hP := hP.2 c1
      rw [if_neg c1] at hR
      exact j_vl (tX12_when_126 C L54 LP54 hL54 x1 x2 x3 x4 x5 x6 x7 x8 s0 h hP hR) ⟨rfl, rfl, rfl, rfl, rfl, rfl, rfl, rfl, rfl, rfl, trivial⟩
    · have hP := hP.1 c1
      rw [if_pos c1] at hR
      refine j_iload C dX12_when_122 rfl ?_
      refine j_istore C dX12_when_124 (by decide) rfl ?_
      exact j_vl (tX12_when_126 C L54 LP54 hL54 x1 x2 x3 x4 x5 x6 x8 x8 s0 h hP hR) ⟨rfl, rfl, rfl, rfl, rfl, rfl, rfl, rfl, rfl, rfl, trivial⟩
def FX12_when_109 (L54 : Int32 → Int32 → Int32 → Int32 → Int32 → Int32 → Int32 → Int32 → ph_H → Int32 × ph_H) (x1 : Int32) (x2 : Int32) (x3 : Int32) (x4 : Int32) (x5 : Int32) (x6 : Int32) (x7 : Int32) (x8 : Int32) (h : ph_H) : Int32 × ph_H := FX12_when_110 L54 x1 x2 x3 x4 x5 x6 x7 x8 0 h
def PX12_when_109 (LP54 : Int32 → Int32 → Int32 → Int32 → Int32 → Int32 → Int32 → Int32 → ph_H → Prop) (x1 : Int32) (x2 : Int32) (x3 : Int32) (x4 : Int32) (x5 : Int32) (x6 : Int32) (x7 : Int32) (x8 : Int32) (h : ph_H) : Prop := PX12_when_110 LP54 x1 x2 x3 x4 x5 x6 x7 x8 0 h
set_option maxRecDepth 100000 in
set_option maxHeartbeats 4000000 in
theorem tX12_when_109 {X : fj_X} {Y : fj_Y} {l0 : Launch} {ad : Nat → Nat} (C : FC X Y l0 cX12_when 10 RX12 ({ frames := 1, cells := 0, slots := 0, locals := 25 } : Room) 0 0 (some .int)) (L54 : Int32 → Int32 → Int32 → Int32 → Int32 → Int32 → Int32 → Int32 → ph_H → Int32 × ph_H) (LP54 : Int32 → Int32 → Int32 → Int32 → Int32 → Int32 → Int32 → Int32 → ph_H → Prop) (hL54 : ∀ (x1 : Int32) (x2 : Int32) (x3 : Int32) (x4 : Int32) (x5 : Int32) (x6 : Int32) (x7 : Int32) (x8 : Int32) (h : ph_H), LP54 x1 x2 x3 x4 x5 x6 x7 x8 h → RETi X Y ad 50 SM cX12_when (L54 x1 x2 x3 x4 x5 x6 x7 x8 h) → FJ X Y ad 50 SM h 54 [(0, .ref (ad 0)), (1, .int x1), (2, .int x2), (3, .int x3), (4, .int x4), (5, .int x5), (6, .int x6), (7, .int x7), (8, .int x8)] []) (x1 : Int32) (x2 : Int32) (x3 : Int32) (x4 : Int32) (x5 : Int32) (x6 : Int32) (x7 : Int32) (x8 : Int32) (h : ph_H) (hP : PX12_when_109 LP54 x1 x2 x3 x4 x5 x6 x7 x8 h) (hR : RETi X Y ad 50 SM cX12_when (FX12_when_109 L54 x1 x2 x3 x4 x5 x6 x7 x8 h)) : FJ X Y ad 50 SM h 109 [(0, .ref (ad 0)), (1, .int x1), (2, .int x2), (3, .int x3), (4, .int x4), (5, .int x5), (6, .int x6), (7, .int x7), (8, .int x8)] [] := by
  unfold PX12_when_109 at hP
  unfold FX12_when_109 at hR
  refine j_iconst (v := 0) C dX12_when_109 (by decide) ?_
  exact j_vl (tX12_when_110 C L54 LP54 hL54 x1 x2 x3 x4 x5 x6 x7 x8 0 h hP hR) ⟨rfl, rfl, rfl, rfl, rfl, rfl, rfl, rfl, rfl, trivial⟩
def FX12_when_54  : Nat → Int32 → Int32 → Int32 → Int32 → Int32 → Int32 → Int32 → Int32 → ph_H → Int32 × ph_H
  | 0, _, _, _, _, _, _, _, _, h => (0, h)
  | q + 1, x1, x2, x3, x4, x5, x6, x7, x8, h => if ((h 0 38) + 1) < x8 then (if x4 = 0 then ((x5, h)) else (((-1), h))) else (if (h 0 38) < x8 then (FX12_when_109 (FX12_when_54  q) x1 x2 x3 x4 x5 x6 x7 x8 h) else (if (h 20 (((28 * x8) + x1).toNatClampNeg)) = 0 then (if (h 21 (((28 * x8) + x1).toNatClampNeg)) = x2 then (FX12_when_110 (FX12_when_54  q) x1 x2 x3 x4 x5 x6 x7 x8 1 h) else (FX12_when_109 (FX12_when_54  q) x1 x2 x3 x4 x5 x6 x7 x8 h)) else (FX12_when_109 (FX12_when_54  q) x1 x2 x3 x4 x5 x6 x7 x8 h)))
def PX12_when_54  : Nat → Int32 → Int32 → Int32 → Int32 → Int32 → Int32 → Int32 → Int32 → ph_H → Prop
  | 0, _, _, _, _, _, _, _, _, _ => False
  | q + 1, x1, x2, x3, x4, x5, x6, x7, x8, h => (((h 0 38) + 1) < x8 → ((x4 = 0 → (True)) ∧ (¬ x4 = 0 → (True)))) ∧ (¬ ((h 0 38) + 1) < x8 → (((h 0 38) < x8 → (PX12_when_109 (PX12_when_54  q) x1 x2 x3 x4 x5 x6 x7 x8 h)) ∧ (¬ (h 0 38) < x8 → (vp_in ((28 * x8) + x1) 8428 ∧ (((h 20 (((28 * x8) + x1).toNatClampNeg)) = 0 → (vp_in ((28 * x8) + x1) 8428 ∧ (((h 21 (((28 * x8) + x1).toNatClampNeg)) = x2 → (PX12_when_110 (PX12_when_54  q) x1 x2 x3 x4 x5 x6 x7 x8 1 h)) ∧ (¬ (h 21 (((28 * x8) + x1).toNatClampNeg)) = x2 → (PX12_when_109 (PX12_when_54  q) x1 x2 x3 x4 x5 x6 x7 x8 h))))) ∧ (¬ (h 20 (((28 * x8) + x1).toNatClampNeg)) = 0 → (PX12_when_109 (PX12_when_54  q) x1 x2 x3 x4 x5 x6 x7 x8 h)))))))
set_option maxRecDepth 100000 in
set_option maxHeartbeats 4000000 in
theorem tX12_when_54 {X : fj_X} {Y : fj_Y} {l0 : Launch} {ad : Nat → Nat} (C : FC X Y l0 cX12_when 10 RX12 ({ frames := 1, cells := 0, slots := 0, locals := 25 } : Room) 0 0 (some .int)) : ∀ (q : Nat) (x1 : Int32) (x2 : Int32) (x3 : Int32) (x4 : Int32) (x5 : Int32) (x6 : Int32) (x7 : Int32) (x8 : Int32) (h : ph_H), PX12_when_54  q x1 x2 x3 x4 x5 x6 x7 x8 h → RETi X Y ad 50 SM cX12_when (FX12_when_54  q x1 x2 x3 x4 x5 x6 x7 x8 h) → FJ X Y ad 50 SM h 54 [(0, .ref (ad 0)), (1, .int x1), (2, .int x2), (3, .int x3), (4, .int x4), (5, .int x5), (6, .int x6), (7, .int x7), (8, .int x8)] [] := by
  intro q
  induction q with
  | zero =>
    intro x1 x2 x3 x4 x5 x6 x7 x8 h hP hR
    exact absurd hP id
  | succ q ih =>
    intro x1 x2 x3 x4 x5 x6 x7 x8 h hP hR
    unfold PX12_when_54 at hP
    unfold FX12_when_54 at hR
    refine j_iload C dX12_when_54 rfl ?_
    refine j_aload_n C dX12_when_56 rfl rfl ?_
    refine gM_304 (v := (h 0 38)) C dX12_when_57 rfl ?_
    refine j_iconst (v := 1) C dX12_when_60 (by decide) ?_
    refine j_iadd C dX12_when_61 ?_
    refine j_icmp_gt (tgt := 176) C dX12_when_62 (by decide) (fun c0 => ?_) (fun c0 => ?_)
    · have hP := hP.1 c0
      rw [if_pos c0] at hR
      refine j_iload C dX12_when_176 rfl ?_
      refine j_if_ne (tgt := 186) C dX12_when_178 (by decide) (fun c1 => ?_) (fun c1 => ?_)
      · have hP := hP.2 c1
        rw [if_neg c1] at hR
        refine j_iconst (v := (-1)) C dX12_when_186 (by decide) ?_
        exact hR _ _ dX12_when_187
      · have hP := hP.1 c1
        rw [if_pos c1] at hR
        refine j_iload C dX12_when_181 rfl ?_
        refine j_goto (tgt := 187) C dX12_when_183 (by decide) ?_
        exact hR _ _ dX12_when_187
    · have hP := hP.2 c0
      rw [if_neg c0] at hR
      refine j_iload C dX12_when_65 rfl ?_
      refine j_aload_n C dX12_when_67 rfl rfl ?_
      refine gM_304 (v := (h 0 38)) C dX12_when_68 rfl ?_
      refine j_icmp_gt (tgt := 109) C dX12_when_71 (by decide) (fun c1 => ?_) (fun c1 => ?_)
      · have hP := hP.1 c1
        rw [if_pos c1] at hR
        exact j_vl (tX12_when_109 C (FX12_when_54  q) (PX12_when_54  q) (ih) x1 x2 x3 x4 x5 x6 x7 x8 h hP hR) ⟨rfl, rfl, rfl, rfl, rfl, rfl, rfl, rfl, rfl, trivial⟩
      · have hP := hP.2 c1
        rw [if_neg c1] at hR
        refine j_aload_n C dX12_when_74 rfl rfl ?_
        refine gM_68 C dX12_when_75 ?_
        refine j_bipush (v := 28) C dX12_when_78 (by decide) ?_
        refine j_iload C dX12_when_80 rfl ?_
        refine j_imul C dX12_when_82 ?_
        refine j_iload_n C dX12_when_83 rfl rfl ?_
        refine j_iadd C dX12_when_84 ?_
        obtain ⟨p7, hP⟩ := hP
        refine j_iald (k := 20) (v := (h 20 (((28 * x8) + x1).toNatClampNeg))) C dX12_when_85 (by decide) rfl p7 rfl ?_
        refine j_if_ne (tgt := 109) C dX12_when_86 (by decide) (fun c2 => ?_) (fun c2 => ?_)
        · have hP := hP.2 c2
          rw [if_neg c2] at hR
          exact j_vl (tX12_when_109 C (FX12_when_54  q) (PX12_when_54  q) (ih) x1 x2 x3 x4 x5 x6 x7 x8 h hP hR) ⟨rfl, rfl, rfl, rfl, rfl, rfl, rfl, rfl, rfl, trivial⟩
        · have hP := hP.1 c2
          rw [if_pos c2] at hR
          refine j_aload_n C dX12_when_89 rfl rfl ?_
          refine gM_71 C dX12_when_90 ?_
          refine j_bipush (v := 28) C dX12_when_93 (by decide) ?_
          refine j_iload C dX12_when_95 rfl ?_
          refine j_imul C dX12_when_97 ?_
          refine j_iload_n C dX12_when_98 rfl rfl ?_
          refine j_iadd C dX12_when_99 ?_
          obtain ⟨p7, hP⟩ := hP
          refine j_iald (k := 21) (v := (h 21 (((28 * x8) + x1).toNatClampNeg))) C dX12_when_100 (by decide) rfl p7 rfl ?_
          refine j_iload_n C dX12_when_101 rfl rfl ?_
          refine j_icmp_ne (tgt := 109) C dX12_when_102 (by decide) (fun c3 => ?_) (fun c3 => ?_)
          · have hP := hP.2 c3
            rw [if_neg c3] at hR
            exact j_vl (tX12_when_109 C (FX12_when_54  q) (PX12_when_54  q) (ih) x1 x2 x3 x4 x5 x6 x7 x8 h hP hR) ⟨rfl, rfl, rfl, rfl, rfl, rfl, rfl, rfl, rfl, trivial⟩
          · have hP := hP.1 c3
            rw [if_pos c3] at hR
            refine j_iconst (v := 1) C dX12_when_105 (by decide) ?_
            refine j_goto (tgt := 110) C dX12_when_106 (by decide) ?_
            exact j_vl (tX12_when_110 C (FX12_when_54  q) (PX12_when_54  q) (ih) x1 x2 x3 x4 x5 x6 x7 x8 1 h hP hR) ⟨rfl, rfl, rfl, rfl, rfl, rfl, rfl, rfl, rfl, trivial⟩
def FX12_when (a0 : Int32) (a1 : Int32) (a2 : Int32) (a3 : Int32) (h : ph_H) : Int32 × ph_H := if (h 0 36) = 0 then (((-2), (hs h 0 0 0))) else (if (FX12_isIn a0.toInt64 0 11) = 0 then (((-1), (hs h 0 0 0))) else (if (FX12_isIn a3.toInt64 0 2) = 0 then (((-1), (hs h 0 0 0))) else (FX12_when_54 2000 a0 a1 a2 a3 0 0 (-1) 0 (hs h 0 0 0))))
def PX12_when (a0 : Int32) (a1 : Int32) (a2 : Int32) (a3 : Int32) (h : ph_H) : Prop := ((h 0 36) = 0 → (True)) ∧ (¬ (h 0 36) = 0 → ((PX12_isIn a0.toInt64 0 11) ∧ (((FX12_isIn a0.toInt64 0 11) = 0 → (True)) ∧ (¬ (FX12_isIn a0.toInt64 0 11) = 0 → ((PX12_isIn a3.toInt64 0 2) ∧ (((FX12_isIn a3.toInt64 0 2) = 0 → (True)) ∧ (¬ (FX12_isIn a3.toInt64 0 2) = 0 → (PX12_when_54 2000 a0 a1 a2 a3 0 0 (-1) 0 (hs h 0 0 0)))))))))
set_option maxRecDepth 100000 in
set_option maxHeartbeats 4000000 in
theorem tX12_when {X : fj_X} {Y : fj_Y} {l0 : Launch} {ad : Nat → Nat} (C : FC X Y l0 cX12_when 10 RX12 ({ frames := 1, cells := 0, slots := 0, locals := 25 } : Room) 0 0 (some .int)) (a0 : Int32) (a1 : Int32) (a2 : Int32) (a3 : Int32) (h : ph_H) (hP : PX12_when a0 a1 a2 a3 h) (hR : RETi X Y ad 50 SM cX12_when (FX12_when a0 a1 a2 a3 h)) : FJ X Y ad 50 SM h 0 [(0, .ref (ad 0)), (1, .int a0), (2, .int a1), (3, .int a2), (4, .int a3)] [] := by
  unfold PX12_when at hP
  unfold FX12_when at hR
  refine j_aload_n C dX12_when_0 rfl rfl ?_
  refine j_iconst (v := 0) C dX12_when_1 (by decide) ?_
  refine pM_164 C dX12_when_2 ?_
  refine j_aload_n C dX12_when_5 rfl rfl ?_
  refine gM_294 (v := (h 0 36)) C dX12_when_6 (hz_i (by decide)) ?_
  refine j_if_ne (tgt := 15) C dX12_when_9 (by decide) (fun c0 => ?_) (fun c0 => ?_)
  · have hP := hP.2 c0
    rw [if_neg c0] at hR
    refine j_iload_n C dX12_when_15 rfl rfl ?_
    refine j_i2l C dX12_when_16 ?_
    refine j_lconst (v := 0) C dX12_when_17 (by decide) ?_
    refine j_ldc2 (v := 11) C dX12_when_18 kl_RX12_175 ?_
    obtain ⟨p4, hP⟩ := hP
    refine j_callS C (MX12_isIn a0.toInt64 0 11 (hs h 0 0 0) p4) dX12_when_21 (CKX12_isIn (by decide)) ⟨rfl, rfl⟩ lk_RX12_169 st_X12_isIn rfl (Nat.le_of_ble_eq_true rfl) ?_
    intro r S' h' hq
    obtain ⟨rfl, hh, rfl, hb6⟩ := hq
    rw [hh]
    refine j_if_eq (tgt := 40) C dX12_when_24 (by decide) (fun c1 => ?_) (fun c1 => ?_)
    · have hP := hP.1 c1
      rw [if_pos c1] at hR
      refine j_iconst (v := (-1)) C dX12_when_40 (by decide) ?_
      exact hR _ _ dX12_when_41
    · have hP := hP.2 c1
      rw [if_neg c1] at hR
      refine j_iload C dX12_when_27 rfl ?_
      refine j_i2l C dX12_when_29 ?_
      refine j_lconst (v := 0) C dX12_when_30 (by decide) ?_
      refine j_ldc2 (v := 2) C dX12_when_31 kl_RX12_325 ?_
      obtain ⟨p4, hP⟩ := hP
      refine j_callS C (MX12_isIn a3.toInt64 0 2 (hs h 0 0 0) p4) dX12_when_34 (CKX12_isIn (by decide)) ⟨rfl, rfl⟩ lk_RX12_169 st_X12_isIn rfl (Nat.le_of_ble_eq_true rfl) ?_
      intro r S' h' hq
      obtain ⟨rfl, hh, rfl, hb6⟩ := hq
      rw [hh]
      refine j_if_ne (tgt := 42) C dX12_when_37 (by decide) (fun c2 => ?_) (fun c2 => ?_)
      · have hP := hP.2 c2
        rw [if_neg c2] at hR
        refine j_iconst (v := 0) C dX12_when_42 (by decide) ?_
        refine j_istore C dX12_when_43 (by decide) rfl ?_
        refine j_iconst (v := 0) C dX12_when_45 (by decide) ?_
        refine j_istore C dX12_when_46 (by decide) rfl ?_
        refine j_iconst (v := (-1)) C dX12_when_48 (by decide) ?_
        refine j_istore C dX12_when_49 (by decide) rfl ?_
        refine j_iconst (v := 0) C dX12_when_51 (by decide) ?_
        refine j_istore C dX12_when_52 (by decide) rfl ?_
        exact j_vl (tX12_when_54 C 2000 a0 a1 a2 a3 0 0 (-1) 0 (hs h 0 0 0) hP hR) ⟨rfl, rfl, rfl, rfl, rfl, rfl, rfl, rfl, rfl, trivial⟩
      · have hP := hP.1 c2
        rw [if_pos c2] at hR
        refine j_iconst (v := (-1)) C dX12_when_40 (by decide) ?_
        exact hR _ _ dX12_when_41
  · have hP := hP.1 c0
    rw [if_pos c0] at hR
    refine j_bipush (v := (-2)) C dX12_when_12 (by decide) ?_
    exact hR _ _ dX12_when_14
theorem MX12_when {l0 : Launch} {Y : fj_Y} {ad : Nat → Nat} (a0 : Int32) (a1 : Int32) (a2 : Int32) (a3 : Int32) (h : ph_H) (hP : PX12_when a0 a1 a2 a3 h) : MI l0 yX12_when cX12_when 10 (some .int) ({ frames := 1, cells := 0, slots := 0, locals := 25 } : Room) Y ad 50 SM h [.ref (ad 0), .int a0, .int a1, .int a2, .int a3] (fun r S' h' => S' = SM ∧ h' = (FX12_when a0 a1 a2 a3 h).2 ∧ r = (FX12_when a0 a1 a2 a3 h).1) := met_i (by decide) (Nat.le_of_ble_eq_true rfl) (fun _ _ _ _ => rfl) (fun X C K => j_vl (tX12_when C a0 a1 a2 a3 h hP (fun pc lv hd => K _ _ _ ⟨rfl, rfl, rfl⟩ pc lv hd)) ⟨rfl, rfl, rfl, rfl, rfl, trivial⟩)

-- X12_isWaking
def FX12_isWaking_81 (L53 : Int32 → Int32 → Int32 → Int32 → ph_H → Int32) (x1 : Int32) (x2 : Int32) (x4 : Int32) (s0 : Int32) (h : ph_H) : Int32 := L53 x1 x2 s0 (x4 + 1) h
def PX12_isWaking_81 (LP53 : Int32 → Int32 → Int32 → Int32 → ph_H → Prop) (x1 : Int32) (x2 : Int32) (x4 : Int32) (s0 : Int32) (h : ph_H) : Prop := LP53 x1 x2 s0 (x4 + 1) h
set_option maxRecDepth 100000 in
set_option maxHeartbeats 4000000 in
theorem tX12_isWaking_81 {X : fj_X} {Y : fj_Y} {l0 : Launch} {ad : Nat → Nat} (C : FC X Y l0 cX12_isWaking 6 RX12 ({ frames := 0, cells := 0, slots := 0, locals := 0 } : Room) 0 0 (some .boolean)) (h : ph_H) (L53 : Int32 → Int32 → Int32 → Int32 → ph_H → Int32) (LP53 : Int32 → Int32 → Int32 → Int32 → ph_H → Prop) (hL53 : ∀ (x1 : Int32) (x2 : Int32) (x3 : Int32) (x4 : Int32), LP53 x1 x2 x3 x4 h → RETq X Y ad 50 SM h cX12_isWaking (L53 x1 x2 x3 x4 h) → FJ X Y ad 50 SM h 53 [(0, .ref (ad 0)), (1, .int x1), (2, .int x2), (3, .int x3), (4, .int x4)] []) (x1 : Int32) (x2 : Int32) (x4 : Int32) (s0 : Int32) (hP : PX12_isWaking_81 LP53 x1 x2 x4 s0 h) (hR : RETq X Y ad 50 SM h cX12_isWaking (FX12_isWaking_81 L53 x1 x2 x4 s0 h)) : FJ X Y ad 50 SM h 81 [(0, .ref (ad 0)), (1, .int x1), (2, .int x2), (4, .int x4)] [.int s0] := by
  unfold PX12_isWaking_81 at hP
  unfold FX12_isWaking_81 at hR
  refine j_istore_n C dX12_isWaking_81 rfl (by decide) rfl ?_
  refine j_iinc (v := (x4 + 1)) C dX12_isWaking_82 rfl rfl (by decide) rfl ?_
  refine j_goto (tgt := 53) C dX12_isWaking_85 (by decide) ?_
  exact j_vl (hL53 x1 x2 s0 (x4 + 1) hP hR) ⟨rfl, rfl, rfl, rfl, rfl, trivial⟩
def FX12_isWaking_148 (L105 : Int32 → Int32 → Int32 → ph_H → Int32) (x1 : Int32) (x5 : Int32) (s0 : Int32) (h : ph_H) : Int32 := L105 x1 s0 (x5 + 1) h
def PX12_isWaking_148 (LP105 : Int32 → Int32 → Int32 → ph_H → Prop) (x1 : Int32) (x5 : Int32) (s0 : Int32) (h : ph_H) : Prop := LP105 x1 s0 (x5 + 1) h
set_option maxRecDepth 100000 in
set_option maxHeartbeats 4000000 in
theorem tX12_isWaking_148 {X : fj_X} {Y : fj_Y} {l0 : Launch} {ad : Nat → Nat} (C : FC X Y l0 cX12_isWaking 6 RX12 ({ frames := 0, cells := 0, slots := 0, locals := 0 } : Room) 0 0 (some .boolean)) (h : ph_H) (L105 : Int32 → Int32 → Int32 → ph_H → Int32) (LP105 : Int32 → Int32 → Int32 → ph_H → Prop) (hL105 : ∀ (x1 : Int32) (x4 : Int32) (x5 : Int32), LP105 x1 x4 x5 h → RETq X Y ad 50 SM h cX12_isWaking (L105 x1 x4 x5 h) → FJ X Y ad 50 SM h 105 [(0, .ref (ad 0)), (1, .int x1), (4, .int x4), (5, .int x5)] []) (x1 : Int32) (x5 : Int32) (s0 : Int32) (hP : PX12_isWaking_148 LP105 x1 x5 s0 h) (hR : RETq X Y ad 50 SM h cX12_isWaking (FX12_isWaking_148 L105 x1 x5 s0 h)) : FJ X Y ad 50 SM h 148 [(0, .ref (ad 0)), (1, .int x1), (5, .int x5)] [.int s0] := by
  unfold PX12_isWaking_148 at hP
  unfold FX12_isWaking_148 at hR
  refine j_istore C dX12_isWaking_148 (by decide) rfl ?_
  refine j_iinc (v := (x5 + 1)) C dX12_isWaking_150 rfl rfl (by decide) rfl ?_
  refine j_goto (tgt := 105) C dX12_isWaking_153 (by decide) ?_
  exact j_vl (hL105 x1 s0 (x5 + 1) hP hR) ⟨rfl, rfl, rfl, rfl, trivial⟩
def FX12_isWaking_143 (L105 : Int32 → Int32 → Int32 → ph_H → Int32) (x1 : Int32) (x5 : Int32) (h : ph_H) : Int32 := FX12_isWaking_148 L105 x1 x5 1 h
def PX12_isWaking_143 (LP105 : Int32 → Int32 → Int32 → ph_H → Prop) (x1 : Int32) (x5 : Int32) (h : ph_H) : Prop := PX12_isWaking_148 LP105 x1 x5 1 h
set_option maxRecDepth 100000 in
set_option maxHeartbeats 4000000 in
theorem tX12_isWaking_143 {X : fj_X} {Y : fj_Y} {l0 : Launch} {ad : Nat → Nat} (C : FC X Y l0 cX12_isWaking 6 RX12 ({ frames := 0, cells := 0, slots := 0, locals := 0 } : Room) 0 0 (some .boolean)) (h : ph_H) (L105 : Int32 → Int32 → Int32 → ph_H → Int32) (LP105 : Int32 → Int32 → Int32 → ph_H → Prop) (hL105 : ∀ (x1 : Int32) (x4 : Int32) (x5 : Int32), LP105 x1 x4 x5 h → RETq X Y ad 50 SM h cX12_isWaking (L105 x1 x4 x5 h) → FJ X Y ad 50 SM h 105 [(0, .ref (ad 0)), (1, .int x1), (4, .int x4), (5, .int x5)] []) (x1 : Int32) (x5 : Int32) (hP : PX12_isWaking_143 LP105 x1 x5 h) (hR : RETq X Y ad 50 SM h cX12_isWaking (FX12_isWaking_143 L105 x1 x5 h)) : FJ X Y ad 50 SM h 143 [(0, .ref (ad 0)), (1, .int x1), (5, .int x5)] [] := by
  unfold PX12_isWaking_143 at hP
  unfold FX12_isWaking_143 at hR
  refine j_iconst (v := 1) C dX12_isWaking_143 (by decide) ?_
  refine j_goto (tgt := 148) C dX12_isWaking_144 (by decide) ?_
  exact j_vl (tX12_isWaking_148 C h L105 LP105 hL105 x1 x5 1 hP hR) ⟨rfl, rfl, rfl, trivial⟩
def FX12_isWaking_147 (L105 : Int32 → Int32 → Int32 → ph_H → Int32) (x1 : Int32) (x5 : Int32) (h : ph_H) : Int32 := FX12_isWaking_148 L105 x1 x5 0 h
def PX12_isWaking_147 (LP105 : Int32 → Int32 → Int32 → ph_H → Prop) (x1 : Int32) (x5 : Int32) (h : ph_H) : Prop := PX12_isWaking_148 LP105 x1 x5 0 h
set_option maxRecDepth 100000 in
set_option maxHeartbeats 4000000 in
theorem tX12_isWaking_147 {X : fj_X} {Y : fj_Y} {l0 : Launch} {ad : Nat → Nat} (C : FC X Y l0 cX12_isWaking 6 RX12 ({ frames := 0, cells := 0, slots := 0, locals := 0 } : Room) 0 0 (some .boolean)) (h : ph_H) (L105 : Int32 → Int32 → Int32 → ph_H → Int32) (LP105 : Int32 → Int32 → Int32 → ph_H → Prop) (hL105 : ∀ (x1 : Int32) (x4 : Int32) (x5 : Int32), LP105 x1 x4 x5 h → RETq X Y ad 50 SM h cX12_isWaking (L105 x1 x4 x5 h) → FJ X Y ad 50 SM h 105 [(0, .ref (ad 0)), (1, .int x1), (4, .int x4), (5, .int x5)] []) (x1 : Int32) (x5 : Int32) (hP : PX12_isWaking_147 LP105 x1 x5 h) (hR : RETq X Y ad 50 SM h cX12_isWaking (FX12_isWaking_147 L105 x1 x5 h)) : FJ X Y ad 50 SM h 147 [(0, .ref (ad 0)), (1, .int x1), (5, .int x5)] [] := by
  unfold PX12_isWaking_147 at hP
  unfold FX12_isWaking_147 at hR
  refine j_iconst (v := 0) C dX12_isWaking_147 (by decide) ?_
  exact j_vl (tX12_isWaking_148 C h L105 LP105 hL105 x1 x5 0 hP hR) ⟨rfl, rfl, rfl, trivial⟩
def FX12_isWaking_105  : Nat → Int32 → Int32 → Int32 → ph_H → Int32
  | 0, _, _, _, _ => 0
  | q + 1, x1, x4, x5, h => if x1 ≤ x5 then (x4) else (if x4 = 0 then (FX12_isWaking_147 (FX12_isWaking_105  q) x1 x5 h) else (if (h 34 (x5.toNatClampNeg)) = 3 then (if (h 35 (x5.toNatClampNeg)) = (h 35 (x1.toNatClampNeg)) then (FX12_isWaking_147 (FX12_isWaking_105  q) x1 x5 h) else (FX12_isWaking_143 (FX12_isWaking_105  q) x1 x5 h)) else (FX12_isWaking_143 (FX12_isWaking_105  q) x1 x5 h)))
def PX12_isWaking_105  : Nat → Int32 → Int32 → Int32 → ph_H → Prop
  | 0, _, _, _, _ => False
  | q + 1, x1, x4, x5, h => (x1 ≤ x5 → (bo x4 ∧ (True))) ∧ (¬ x1 ≤ x5 → ((x4 = 0 → (PX12_isWaking_147 (PX12_isWaking_105  q) x1 x5 h)) ∧ (¬ x4 = 0 → (vp_in x5 301 ∧ (((h 34 (x5.toNatClampNeg)) = 3 → (vp_in x5 301 ∧ (vp_in x1 301 ∧ (((h 35 (x5.toNatClampNeg)) = (h 35 (x1.toNatClampNeg)) → (PX12_isWaking_147 (PX12_isWaking_105  q) x1 x5 h)) ∧ (¬ (h 35 (x5.toNatClampNeg)) = (h 35 (x1.toNatClampNeg)) → (PX12_isWaking_143 (PX12_isWaking_105  q) x1 x5 h)))))) ∧ (¬ (h 34 (x5.toNatClampNeg)) = 3 → (PX12_isWaking_143 (PX12_isWaking_105  q) x1 x5 h)))))))
set_option maxRecDepth 100000 in
set_option maxHeartbeats 4000000 in
theorem tX12_isWaking_105 {X : fj_X} {Y : fj_Y} {l0 : Launch} {ad : Nat → Nat} (C : FC X Y l0 cX12_isWaking 6 RX12 ({ frames := 0, cells := 0, slots := 0, locals := 0 } : Room) 0 0 (some .boolean)) (h : ph_H) : ∀ (q : Nat) (x1 : Int32) (x4 : Int32) (x5 : Int32), PX12_isWaking_105  q x1 x4 x5 h → RETq X Y ad 50 SM h cX12_isWaking (FX12_isWaking_105  q x1 x4 x5 h) → FJ X Y ad 50 SM h 105 [(0, .ref (ad 0)), (1, .int x1), (4, .int x4), (5, .int x5)] [] := by
  intro q
  induction q with
  | zero =>
    intro x1 x4 x5 hP hR
    exact absurd hP id
  | succ q ih =>
    intro x1 x4 x5 hP hR
    unfold PX12_isWaking_105 at hP
    unfold FX12_isWaking_105 at hR
    refine j_iload C dX12_isWaking_105 rfl ?_
    refine j_iload_n C dX12_isWaking_107 rfl rfl ?_
    refine j_icmp_ge (tgt := 156) C dX12_isWaking_108 (by decide) (fun c0 => ?_) (fun c0 => ?_)
    · have hP := hP.1 c0
      rw [if_pos c0] at hR
      refine j_iload C dX12_isWaking_156 rfl ?_
      obtain ⟨p1, hP⟩ := hP
      exact hR p1 _ _ dX12_isWaking_158
    · have hP := hP.2 c0
      rw [if_neg c0] at hR
      refine j_iload C dX12_isWaking_111 rfl ?_
      refine j_if_eq (tgt := 147) C dX12_isWaking_113 (by decide) (fun c1 => ?_) (fun c1 => ?_)
      · have hP := hP.1 c1
        rw [if_pos c1] at hR
        exact j_vl (tX12_isWaking_147 C h (FX12_isWaking_105  q) (PX12_isWaking_105  q) (ih) x1 x5 hP hR) ⟨rfl, rfl, rfl, trivial⟩
      · have hP := hP.2 c1
        rw [if_neg c1] at hR
        refine j_aload_n C dX12_isWaking_116 rfl rfl ?_
        refine gM_111 C dX12_isWaking_117 ?_
        refine j_iload C dX12_isWaking_120 rfl ?_
        obtain ⟨p3, hP⟩ := hP
        refine j_iald (k := 34) (v := (h 34 (x5.toNatClampNeg))) C dX12_isWaking_122 (by decide) rfl p3 rfl ?_
        refine j_iconst (v := 3) C dX12_isWaking_123 (by decide) ?_
        refine j_icmp_ne (tgt := 143) C dX12_isWaking_124 (by decide) (fun c2 => ?_) (fun c2 => ?_)
        · have hP := hP.2 c2
          rw [if_neg c2] at hR
          exact j_vl (tX12_isWaking_143 C h (FX12_isWaking_105  q) (PX12_isWaking_105  q) (ih) x1 x5 hP hR) ⟨rfl, rfl, rfl, trivial⟩
        · have hP := hP.1 c2
          rw [if_pos c2] at hR
          refine j_aload_n C dX12_isWaking_127 rfl rfl ?_
          refine gM_114 C dX12_isWaking_128 ?_
          refine j_iload C dX12_isWaking_131 rfl ?_
          obtain ⟨p3, hP⟩ := hP
          refine j_iald (k := 35) (v := (h 35 (x5.toNatClampNeg))) C dX12_isWaking_133 (by decide) rfl p3 rfl ?_
          refine j_aload_n C dX12_isWaking_134 rfl rfl ?_
          refine gM_114 C dX12_isWaking_135 ?_
          refine j_iload_n C dX12_isWaking_138 rfl rfl ?_
          obtain ⟨p8, hP⟩ := hP
          refine j_iald (k := 35) (v := (h 35 (x1.toNatClampNeg))) C dX12_isWaking_139 (by decide) rfl p8 rfl ?_
          refine j_icmp_eq (tgt := 147) C dX12_isWaking_140 (by decide) (fun c3 => ?_) (fun c3 => ?_)
          · have hP := hP.1 c3
            rw [if_pos c3] at hR
            exact j_vl (tX12_isWaking_147 C h (FX12_isWaking_105  q) (PX12_isWaking_105  q) (ih) x1 x5 hP hR) ⟨rfl, rfl, rfl, trivial⟩
          · have hP := hP.2 c3
            rw [if_neg c3] at hR
            exact j_vl (tX12_isWaking_143 C h (FX12_isWaking_105  q) (PX12_isWaking_105  q) (ih) x1 x5 hP hR) ⟨rfl, rfl, rfl, trivial⟩
def FX12_isWaking_98  (x1 : Int32) (x3 : Int32) (s0 : Int32) (h : ph_H) : Int32 := FX12_isWaking_105 2000 x1 s0 (x3 + 1) h
def PX12_isWaking_98  (x1 : Int32) (x3 : Int32) (s0 : Int32) (h : ph_H) : Prop := PX12_isWaking_105 2000 x1 s0 (x3 + 1) h
set_option maxRecDepth 100000 in
set_option maxHeartbeats 4000000 in
theorem tX12_isWaking_98 {X : fj_X} {Y : fj_Y} {l0 : Launch} {ad : Nat → Nat} (C : FC X Y l0 cX12_isWaking 6 RX12 ({ frames := 0, cells := 0, slots := 0, locals := 0 } : Room) 0 0 (some .boolean)) (h : ph_H) (x1 : Int32) (x3 : Int32) (s0 : Int32) (hP : PX12_isWaking_98  x1 x3 s0 h) (hR : RETq X Y ad 50 SM h cX12_isWaking (FX12_isWaking_98  x1 x3 s0 h)) : FJ X Y ad 50 SM h 98 [(0, .ref (ad 0)), (1, .int x1), (3, .int x3)] [.int s0] := by
  unfold PX12_isWaking_98 at hP
  unfold FX12_isWaking_98 at hR
  refine j_istore C dX12_isWaking_98 (by decide) rfl ?_
  refine j_iload_n C dX12_isWaking_100 rfl rfl ?_
  refine j_iconst (v := 1) C dX12_isWaking_101 (by decide) ?_
  refine j_iadd C dX12_isWaking_102 ?_
  refine j_istore C dX12_isWaking_103 (by decide) rfl ?_
  exact j_vl (tX12_isWaking_105 C h 2000 x1 s0 (x3 + 1) hP hR) ⟨rfl, rfl, rfl, rfl, trivial⟩
def FX12_isWaking_53  : Nat → Int32 → Int32 → Int32 → Int32 → ph_H → Int32
  | 0, _, _, _, _, _ => 0
  | q + 1, x1, x2, x3, x4, h => if x2 ≤ x4 then (if x1 ≤ x3 then (FX12_isWaking_98  x1 x3 0 h) else (FX12_isWaking_98  x1 x3 1 h)) else (if (h 29 (x4.toNatClampNeg)) = (h 29 (x2.toNatClampNeg)) then (FX12_isWaking_81 (FX12_isWaking_53  q) x1 x2 x4 x4 h) else (FX12_isWaking_81 (FX12_isWaking_53  q) x1 x2 x4 x3 h))
def PX12_isWaking_53  : Nat → Int32 → Int32 → Int32 → Int32 → ph_H → Prop
  | 0, _, _, _, _, _ => False
  | q + 1, x1, x2, x3, x4, h => (x2 ≤ x4 → ((x1 ≤ x3 → (PX12_isWaking_98  x1 x3 0 h)) ∧ (¬ x1 ≤ x3 → (PX12_isWaking_98  x1 x3 1 h)))) ∧ (¬ x2 ≤ x4 → (vp_in x4 301 ∧ (vp_in x2 301 ∧ (((h 29 (x4.toNatClampNeg)) = (h 29 (x2.toNatClampNeg)) → (PX12_isWaking_81 (PX12_isWaking_53  q) x1 x2 x4 x4 h)) ∧ (¬ (h 29 (x4.toNatClampNeg)) = (h 29 (x2.toNatClampNeg)) → (PX12_isWaking_81 (PX12_isWaking_53  q) x1 x2 x4 x3 h))))))
set_option maxRecDepth 100000 in
set_option maxHeartbeats 4000000 in
theorem tX12_isWaking_53 {X : fj_X} {Y : fj_Y} {l0 : Launch} {ad : Nat → Nat} (C : FC X Y l0 cX12_isWaking 6 RX12 ({ frames := 0, cells := 0, slots := 0, locals := 0 } : Room) 0 0 (some .boolean)) (h : ph_H) : ∀ (q : Nat) (x1 : Int32) (x2 : Int32) (x3 : Int32) (x4 : Int32), PX12_isWaking_53  q x1 x2 x3 x4 h → RETq X Y ad 50 SM h cX12_isWaking (FX12_isWaking_53  q x1 x2 x3 x4 h) → FJ X Y ad 50 SM h 53 [(0, .ref (ad 0)), (1, .int x1), (2, .int x2), (3, .int x3), (4, .int x4)] [] := by
  intro q
  induction q with
  | zero =>
    intro x1 x2 x3 x4 hP hR
    exact absurd hP id
  | succ q ih =>
    intro x1 x2 x3 x4 hP hR
    unfold PX12_isWaking_53 at hP
    unfold FX12_isWaking_53 at hR
    refine j_iload C dX12_isWaking_53 rfl ?_
    refine j_iload_n C dX12_isWaking_55 rfl rfl ?_
    refine j_icmp_ge (tgt := 88) C dX12_isWaking_56 (by decide) (fun c0 => ?_) (fun c0 => ?_)
    · have hP := hP.1 c0
      rw [if_pos c0] at hR
      refine j_iload_n C dX12_isWaking_88 rfl rfl ?_
      refine j_iload_n C dX12_isWaking_89 rfl rfl ?_
      refine j_icmp_ge (tgt := 97) C dX12_isWaking_90 (by decide) (fun c1 => ?_) (fun c1 => ?_)
      · have hP := hP.1 c1
        rw [if_pos c1] at hR
        refine j_iconst (v := 0) C dX12_isWaking_97 (by decide) ?_
        exact j_vl (tX12_isWaking_98 C h x1 x3 0 hP hR) ⟨rfl, rfl, rfl, trivial⟩
      · have hP := hP.2 c1
        rw [if_neg c1] at hR
        refine j_iconst (v := 1) C dX12_isWaking_93 (by decide) ?_
        refine j_goto (tgt := 98) C dX12_isWaking_94 (by decide) ?_
        exact j_vl (tX12_isWaking_98 C h x1 x3 1 hP hR) ⟨rfl, rfl, rfl, trivial⟩
    · have hP := hP.2 c0
      rw [if_neg c0] at hR
      refine j_aload_n C dX12_isWaking_59 rfl rfl ?_
      refine gM_96 C dX12_isWaking_60 ?_
      refine j_iload C dX12_isWaking_63 rfl ?_
      obtain ⟨p3, hP⟩ := hP
      refine j_iald (k := 29) (v := (h 29 (x4.toNatClampNeg))) C dX12_isWaking_65 (by decide) rfl p3 rfl ?_
      refine j_aload_n C dX12_isWaking_66 rfl rfl ?_
      refine gM_96 C dX12_isWaking_67 ?_
      refine j_iload_n C dX12_isWaking_70 rfl rfl ?_
      obtain ⟨p8, hP⟩ := hP
      refine j_iald (k := 29) (v := (h 29 (x2.toNatClampNeg))) C dX12_isWaking_71 (by decide) rfl p8 rfl ?_
      refine j_icmp_ne (tgt := 80) C dX12_isWaking_72 (by decide) (fun c1 => ?_) (fun c1 => ?_)
      · have hP := hP.2 c1
        rw [if_neg c1] at hR
        refine j_iload_n C dX12_isWaking_80 rfl rfl ?_
        exact j_vl (tX12_isWaking_81 C h (FX12_isWaking_53  q) (PX12_isWaking_53  q) (ih) x1 x2 x4 x3 hP hR) ⟨rfl, rfl, rfl, rfl, trivial⟩
      · have hP := hP.1 c1
        rw [if_pos c1] at hR
        refine j_iload C dX12_isWaking_75 rfl ?_
        refine j_goto (tgt := 81) C dX12_isWaking_77 (by decide) ?_
        exact j_vl (tX12_isWaking_81 C h (FX12_isWaking_53  q) (PX12_isWaking_53  q) (ih) x1 x2 x4 x4 hP hR) ⟨rfl, rfl, rfl, rfl, trivial⟩
def FX12_isWaking (a0 : Int32) (a1 : Int32) (h : ph_H) : Int32 := if (h 34 (a0.toNatClampNeg)) = 3 then (if (h 31 (a1.toNatClampNeg)) = 14 then (if (h 34 (a1.toNatClampNeg)) = 1 then (if (h 35 (a0.toNatClampNeg)) = (h 35 (a1.toNatClampNeg)) then (FX12_isWaking_53 2000 a0 a1 0 1 h) else (0)) else (0)) else (0)) else (0)
def PX12_isWaking (a0 : Int32) (a1 : Int32) (h : ph_H) : Prop := vp_in a0 301 ∧ (((h 34 (a0.toNatClampNeg)) = 3 → (vp_in a1 301 ∧ (((h 31 (a1.toNatClampNeg)) = 14 → (vp_in a1 301 ∧ (((h 34 (a1.toNatClampNeg)) = 1 → (vp_in a0 301 ∧ (vp_in a1 301 ∧ (((h 35 (a0.toNatClampNeg)) = (h 35 (a1.toNatClampNeg)) → (PX12_isWaking_53 2000 a0 a1 0 1 h)) ∧ (¬ (h 35 (a0.toNatClampNeg)) = (h 35 (a1.toNatClampNeg)) → (True)))))) ∧ (¬ (h 34 (a1.toNatClampNeg)) = 1 → (True))))) ∧ (¬ (h 31 (a1.toNatClampNeg)) = 14 → (True))))) ∧ (¬ (h 34 (a0.toNatClampNeg)) = 3 → (True)))
set_option maxRecDepth 100000 in
set_option maxHeartbeats 4000000 in
theorem tX12_isWaking {X : fj_X} {Y : fj_Y} {l0 : Launch} {ad : Nat → Nat} (C : FC X Y l0 cX12_isWaking 6 RX12 ({ frames := 0, cells := 0, slots := 0, locals := 0 } : Room) 0 0 (some .boolean)) (a0 : Int32) (a1 : Int32) (h : ph_H) (hP : PX12_isWaking a0 a1 h) (hR : RETq X Y ad 50 SM h cX12_isWaking (FX12_isWaking a0 a1 h)) : FJ X Y ad 50 SM h 0 [(0, .ref (ad 0)), (1, .int a0), (2, .int a1)] [] := by
  unfold PX12_isWaking at hP
  unfold FX12_isWaking at hR
  refine j_aload_n C dX12_isWaking_0 rfl rfl ?_
  refine gM_111 C dX12_isWaking_1 ?_
  refine j_iload_n C dX12_isWaking_4 rfl rfl ?_
  obtain ⟨p3, hP⟩ := hP
  refine j_iald (k := 34) (v := (h 34 (a0.toNatClampNeg))) C dX12_isWaking_5 (by decide) rfl p3 rfl ?_
  refine j_iconst (v := 3) C dX12_isWaking_6 (by decide) ?_
  refine j_icmp_ne (tgt := 46) C dX12_isWaking_7 (by decide) (fun c0 => ?_) (fun c0 => ?_)
  · have hP := hP.2 c0
    rw [if_neg c0] at hR
    refine j_iconst (v := 0) C dX12_isWaking_46 (by decide) ?_
    exact hR bo_0 _ _ dX12_isWaking_47
  · have hP := hP.1 c0
    rw [if_pos c0] at hR
    refine j_aload_n C dX12_isWaking_10 rfl rfl ?_
    refine gM_102 C dX12_isWaking_11 ?_
    refine j_iload_n C dX12_isWaking_14 rfl rfl ?_
    obtain ⟨p3, hP⟩ := hP
    refine j_iald (k := 31) (v := (h 31 (a1.toNatClampNeg))) C dX12_isWaking_15 (by decide) rfl p3 rfl ?_
    refine j_bipush (v := 14) C dX12_isWaking_16 (by decide) ?_
    refine j_icmp_ne (tgt := 46) C dX12_isWaking_18 (by decide) (fun c1 => ?_) (fun c1 => ?_)
    · have hP := hP.2 c1
      rw [if_neg c1] at hR
      refine j_iconst (v := 0) C dX12_isWaking_46 (by decide) ?_
      exact hR bo_0 _ _ dX12_isWaking_47
    · have hP := hP.1 c1
      rw [if_pos c1] at hR
      refine j_aload_n C dX12_isWaking_21 rfl rfl ?_
      refine gM_111 C dX12_isWaking_22 ?_
      refine j_iload_n C dX12_isWaking_25 rfl rfl ?_
      obtain ⟨p3, hP⟩ := hP
      refine j_iald (k := 34) (v := (h 34 (a1.toNatClampNeg))) C dX12_isWaking_26 (by decide) rfl p3 rfl ?_
      refine j_iconst (v := 1) C dX12_isWaking_27 (by decide) ?_
      refine j_icmp_ne (tgt := 46) C dX12_isWaking_28 (by decide) (fun c2 => ?_) (fun c2 => ?_)
      · have hP := hP.2 c2
        rw [if_neg c2] at hR
        refine j_iconst (v := 0) C dX12_isWaking_46 (by decide) ?_
        exact hR bo_0 _ _ dX12_isWaking_47
      · have hP := hP.1 c2
        rw [if_pos c2] at hR
        refine j_aload_n C dX12_isWaking_31 rfl rfl ?_
        refine gM_114 C dX12_isWaking_32 ?_
        refine j_iload_n C dX12_isWaking_35 rfl rfl ?_
        obtain ⟨p3, hP⟩ := hP
        refine j_iald (k := 35) (v := (h 35 (a0.toNatClampNeg))) C dX12_isWaking_36 (by decide) rfl p3 rfl ?_
        refine j_aload_n C dX12_isWaking_37 rfl rfl ?_
        refine gM_114 C dX12_isWaking_38 ?_
        refine j_iload_n C dX12_isWaking_41 rfl rfl ?_
        obtain ⟨p8, hP⟩ := hP
        refine j_iald (k := 35) (v := (h 35 (a1.toNatClampNeg))) C dX12_isWaking_42 (by decide) rfl p8 rfl ?_
        refine j_icmp_eq (tgt := 48) C dX12_isWaking_43 (by decide) (fun c3 => ?_) (fun c3 => ?_)
        · have hP := hP.1 c3
          rw [if_pos c3] at hR
          refine j_iconst (v := 0) C dX12_isWaking_48 (by decide) ?_
          refine j_istore_n C dX12_isWaking_49 rfl (by decide) rfl ?_
          refine j_iconst (v := 1) C dX12_isWaking_50 (by decide) ?_
          refine j_istore C dX12_isWaking_51 (by decide) rfl ?_
          exact j_vl (tX12_isWaking_53 C h 2000 a0 a1 0 1 hP hR) ⟨rfl, rfl, rfl, rfl, rfl, trivial⟩
        · have hP := hP.2 c3
          rw [if_neg c3] at hR
          refine j_iconst (v := 0) C dX12_isWaking_46 (by decide) ?_
          exact hR bo_0 _ _ dX12_isWaking_47
theorem MX12_isWaking {l0 : Launch} {Y : fj_Y} {ad : Nat → Nat} (a0 : Int32) (a1 : Int32) (h : ph_H) (hP : PX12_isWaking a0 a1 h) : MI l0 yX12_isWaking cX12_isWaking 6 (some .boolean) ({ frames := 0, cells := 0, slots := 0, locals := 0 } : Room) Y ad 50 SM h [.ref (ad 0), .int a0, .int a1] (fun r S' h' => S' = SM ∧ h' = h ∧ r = FX12_isWaking a0 a1 h ∧ bo r) := met_i (by decide) (Nat.le_of_ble_eq_true rfl) (fun _ _ _ q => bo_n q.2.2.2) (fun X C K => j_vl (tX12_isWaking C a0 a1 h hP (fun b pc lv hd => K _ _ _ ⟨rfl, rfl, rfl, b⟩ pc lv hd)) ⟨rfl, rfl, rfl, trivial⟩)

-- X12_isDirect
def FX12_isDirect_108  (h : ph_H) : Int32 := 1
def PX12_isDirect_108  (h : ph_H) : Prop := True
set_option maxRecDepth 100000 in
set_option maxHeartbeats 4000000 in
theorem tX12_isDirect_108 {X : fj_X} {Y : fj_Y} {l0 : Launch} {ad : Nat → Nat} (C : FC X Y l0 cX12_isDirect 5 RX12 ({ frames := 1, cells := 0, slots := 0, locals := 25 } : Room) 0 0 (some .boolean)) (h : ph_H)  (hP : PX12_isDirect_108  h) (hR : RETq X Y ad 50 SM h cX12_isDirect (FX12_isDirect_108  h)) : FJ X Y ad 50 SM h 108 [] [] := by
  unfold PX12_isDirect_108 at hP
  unfold FX12_isDirect_108 at hR
  refine j_iconst (v := 1) C dX12_isDirect_108 (by decide) ?_
  refine j_goto (tgt := 113) C dX12_isDirect_109 (by decide) ?_
  exact hR bo_1 _ _ dX12_isDirect_113
def FX12_isDirect_88  (x1 : Int32) (x2 : Int32) (x3 : Int32) (s0 : Int32) (h : ph_H) : Int32 := if x3 = 0 then (if s0 = 0 then (if (FX12_isWaking x1 x2 h) = 0 then (0) else (FX12_isDirect_108  h)) else (FX12_isDirect_108  h)) else (FX12_isDirect_108  h)
def PX12_isDirect_88  (x1 : Int32) (x2 : Int32) (x3 : Int32) (s0 : Int32) (h : ph_H) : Prop := (x3 = 0 → ((s0 = 0 → ((PX12_isWaking x1 x2 h) ∧ (((FX12_isWaking x1 x2 h) = 0 → (True)) ∧ (¬ (FX12_isWaking x1 x2 h) = 0 → (PX12_isDirect_108  h))))) ∧ (¬ s0 = 0 → (PX12_isDirect_108  h)))) ∧ (¬ x3 = 0 → (PX12_isDirect_108  h))
set_option maxRecDepth 100000 in
set_option maxHeartbeats 4000000 in
theorem tX12_isDirect_88 {X : fj_X} {Y : fj_Y} {l0 : Launch} {ad : Nat → Nat} (C : FC X Y l0 cX12_isDirect 5 RX12 ({ frames := 1, cells := 0, slots := 0, locals := 25 } : Room) 0 0 (some .boolean)) (h : ph_H) (x1 : Int32) (x2 : Int32) (x3 : Int32) (s0 : Int32) (hP : PX12_isDirect_88  x1 x2 x3 s0 h) (hR : RETq X Y ad 50 SM h cX12_isDirect (FX12_isDirect_88  x1 x2 x3 s0 h)) : FJ X Y ad 50 SM h 88 [(0, .ref (ad 0)), (1, .int x1), (2, .int x2), (3, .int x3)] [.int s0] := by
  unfold PX12_isDirect_88 at hP
  unfold FX12_isDirect_88 at hR
  refine j_istore C dX12_isDirect_88 (by decide) rfl ?_
  refine j_iload_n C dX12_isDirect_90 rfl rfl ?_
  refine j_if_ne (tgt := 108) C dX12_isDirect_91 (by decide) (fun c0 => ?_) (fun c0 => ?_)
  · have hP := hP.2 c0
    rw [if_neg c0] at hR
    exact j_vl (tX12_isDirect_108 C h  hP hR) trivial
  · have hP := hP.1 c0
    rw [if_pos c0] at hR
    refine j_iload C dX12_isDirect_94 rfl ?_
    refine j_if_ne (tgt := 108) C dX12_isDirect_96 (by decide) (fun c1 => ?_) (fun c1 => ?_)
    · have hP := hP.2 c1
      rw [if_neg c1] at hR
      exact j_vl (tX12_isDirect_108 C h  hP hR) trivial
    · have hP := hP.1 c1
      rw [if_pos c1] at hR
      refine j_aload_n C dX12_isDirect_99 rfl rfl ?_
      refine j_iload_n C dX12_isDirect_100 rfl rfl ?_
      refine j_iload_n C dX12_isDirect_101 rfl rfl ?_
      obtain ⟨p3, hP⟩ := hP
      refine j_callV C (MX12_isWaking x1 x2 h p3) dX12_isDirect_102 (CKX12_isWaking (by decide)) ⟨rfl, rfl⟩ lk_RX12_327 in_X12_isWaking se_X12_isWaking (by decide) rfl rfl rfl (Nat.le_of_ble_eq_true rfl) ?_
      intro r S' h' hq
      obtain ⟨rfl, hh, rfl, hb5⟩ := hq
      rw [hh]
      refine j_if_eq (tgt := 112) C dX12_isDirect_105 (by decide) (fun c2 => ?_) (fun c2 => ?_)
      · have hP := hP.1 c2
        rw [if_pos c2] at hR
        refine j_iconst (v := 0) C dX12_isDirect_112 (by decide) ?_
        exact hR bo_0 _ _ dX12_isDirect_113
      · have hP := hP.2 c2
        rw [if_neg c2] at hR
        exact j_vl (tX12_isDirect_108 C h  hP hR) trivial
def FX12_isDirect_87  (x1 : Int32) (x2 : Int32) (x3 : Int32) (h : ph_H) : Int32 := FX12_isDirect_88  x1 x2 x3 0 h
def PX12_isDirect_87  (x1 : Int32) (x2 : Int32) (x3 : Int32) (h : ph_H) : Prop := PX12_isDirect_88  x1 x2 x3 0 h
set_option maxRecDepth 100000 in
set_option maxHeartbeats 4000000 in
theorem tX12_isDirect_87 {X : fj_X} {Y : fj_Y} {l0 : Launch} {ad : Nat → Nat} (C : FC X Y l0 cX12_isDirect 5 RX12 ({ frames := 1, cells := 0, slots := 0, locals := 25 } : Room) 0 0 (some .boolean)) (h : ph_H) (x1 : Int32) (x2 : Int32) (x3 : Int32) (hP : PX12_isDirect_87  x1 x2 x3 h) (hR : RETq X Y ad 50 SM h cX12_isDirect (FX12_isDirect_87  x1 x2 x3 h)) : FJ X Y ad 50 SM h 87 [(0, .ref (ad 0)), (1, .int x1), (2, .int x2), (3, .int x3)] [] := by
  unfold PX12_isDirect_87 at hP
  unfold FX12_isDirect_87 at hR
  refine j_iconst (v := 0) C dX12_isDirect_87 (by decide) ?_
  exact j_vl (tX12_isDirect_88 C h x1 x2 x3 0 hP hR) ⟨rfl, rfl, rfl, rfl, trivial⟩
def FX12_isDirect_57  (x1 : Int32) (x2 : Int32) (s0 : Int32) (h : ph_H) : Int32 := if (h 34 (x1.toNatClampNeg)) = 4 then (if (h 35 (x1.toNatClampNeg)) = (h 29 (x2.toNatClampNeg)) then (FX12_isDirect_88  x1 x2 s0 1 h) else (FX12_isDirect_87  x1 x2 s0 h)) else (FX12_isDirect_87  x1 x2 s0 h)
def PX12_isDirect_57  (x1 : Int32) (x2 : Int32) (s0 : Int32) (h : ph_H) : Prop := vp_in x1 301 ∧ (((h 34 (x1.toNatClampNeg)) = 4 → (vp_in x1 301 ∧ (vp_in x2 301 ∧ (((h 35 (x1.toNatClampNeg)) = (h 29 (x2.toNatClampNeg)) → (PX12_isDirect_88  x1 x2 s0 1 h)) ∧ (¬ (h 35 (x1.toNatClampNeg)) = (h 29 (x2.toNatClampNeg)) → (PX12_isDirect_87  x1 x2 s0 h)))))) ∧ (¬ (h 34 (x1.toNatClampNeg)) = 4 → (PX12_isDirect_87  x1 x2 s0 h)))
set_option maxRecDepth 100000 in
set_option maxHeartbeats 4000000 in
theorem tX12_isDirect_57 {X : fj_X} {Y : fj_Y} {l0 : Launch} {ad : Nat → Nat} (C : FC X Y l0 cX12_isDirect 5 RX12 ({ frames := 1, cells := 0, slots := 0, locals := 25 } : Room) 0 0 (some .boolean)) (h : ph_H) (x1 : Int32) (x2 : Int32) (s0 : Int32) (hP : PX12_isDirect_57  x1 x2 s0 h) (hR : RETq X Y ad 50 SM h cX12_isDirect (FX12_isDirect_57  x1 x2 s0 h)) : FJ X Y ad 50 SM h 57 [(0, .ref (ad 0)), (1, .int x1), (2, .int x2)] [.int s0] := by
  unfold PX12_isDirect_57 at hP
  unfold FX12_isDirect_57 at hR
  refine j_istore_n C dX12_isDirect_57 rfl (by decide) rfl ?_
  refine j_aload_n C dX12_isDirect_58 rfl rfl ?_
  refine gM_111 C dX12_isDirect_59 ?_
  refine j_iload_n C dX12_isDirect_62 rfl rfl ?_
  obtain ⟨p4, hP⟩ := hP
  refine j_iald (k := 34) (v := (h 34 (x1.toNatClampNeg))) C dX12_isDirect_63 (by decide) rfl p4 rfl ?_
  refine j_iconst (v := 4) C dX12_isDirect_64 (by decide) ?_
  refine j_icmp_ne (tgt := 87) C dX12_isDirect_65 (by decide) (fun c0 => ?_) (fun c0 => ?_)
  · have hP := hP.2 c0
    rw [if_neg c0] at hR
    exact j_vl (tX12_isDirect_87 C h x1 x2 s0 hP hR) ⟨rfl, rfl, rfl, rfl, trivial⟩
  · have hP := hP.1 c0
    rw [if_pos c0] at hR
    refine j_aload_n C dX12_isDirect_68 rfl rfl ?_
    refine gM_114 C dX12_isDirect_69 ?_
    refine j_iload_n C dX12_isDirect_72 rfl rfl ?_
    obtain ⟨p3, hP⟩ := hP
    refine j_iald (k := 35) (v := (h 35 (x1.toNatClampNeg))) C dX12_isDirect_73 (by decide) rfl p3 rfl ?_
    refine j_aload_n C dX12_isDirect_74 rfl rfl ?_
    refine gM_96 C dX12_isDirect_75 ?_
    refine j_iload_n C dX12_isDirect_78 rfl rfl ?_
    obtain ⟨p8, hP⟩ := hP
    refine j_iald (k := 29) (v := (h 29 (x2.toNatClampNeg))) C dX12_isDirect_79 (by decide) rfl p8 rfl ?_
    refine j_icmp_ne (tgt := 87) C dX12_isDirect_80 (by decide) (fun c1 => ?_) (fun c1 => ?_)
    · have hP := hP.2 c1
      rw [if_neg c1] at hR
      exact j_vl (tX12_isDirect_87 C h x1 x2 s0 hP hR) ⟨rfl, rfl, rfl, rfl, trivial⟩
    · have hP := hP.1 c1
      rw [if_pos c1] at hR
      refine j_iconst (v := 1) C dX12_isDirect_83 (by decide) ?_
      refine j_goto (tgt := 88) C dX12_isDirect_84 (by decide) ?_
      exact j_vl (tX12_isDirect_88 C h x1 x2 s0 1 hP hR) ⟨rfl, rfl, rfl, rfl, trivial⟩
def FX12_isDirect_56  (x1 : Int32) (x2 : Int32) (h : ph_H) : Int32 := FX12_isDirect_57  x1 x2 0 h
def PX12_isDirect_56  (x1 : Int32) (x2 : Int32) (h : ph_H) : Prop := PX12_isDirect_57  x1 x2 0 h
set_option maxRecDepth 100000 in
set_option maxHeartbeats 4000000 in
theorem tX12_isDirect_56 {X : fj_X} {Y : fj_Y} {l0 : Launch} {ad : Nat → Nat} (C : FC X Y l0 cX12_isDirect 5 RX12 ({ frames := 1, cells := 0, slots := 0, locals := 25 } : Room) 0 0 (some .boolean)) (h : ph_H) (x1 : Int32) (x2 : Int32) (hP : PX12_isDirect_56  x1 x2 h) (hR : RETq X Y ad 50 SM h cX12_isDirect (FX12_isDirect_56  x1 x2 h)) : FJ X Y ad 50 SM h 56 [(0, .ref (ad 0)), (1, .int x1), (2, .int x2)] [] := by
  unfold PX12_isDirect_56 at hP
  unfold FX12_isDirect_56 at hR
  refine j_iconst (v := 0) C dX12_isDirect_56 (by decide) ?_
  exact j_vl (tX12_isDirect_57 C h x1 x2 0 hP hR) ⟨rfl, rfl, rfl, trivial⟩
def FX12_isDirect (a0 : Int32) (a1 : Int32) (h : ph_H) : Int32 := if (h 29 (a0.toNatClampNeg)) = (h 29 (a1.toNatClampNeg)) then (1) else (if (h 34 (a0.toNatClampNeg)) = 2 then (if (h 34 (a1.toNatClampNeg)) = 1 then (if (h 35 (a0.toNatClampNeg)) = (h 35 (a1.toNatClampNeg)) then (FX12_isDirect_57  a0 a1 1 h) else (FX12_isDirect_56  a0 a1 h)) else (FX12_isDirect_56  a0 a1 h)) else (FX12_isDirect_56  a0 a1 h))
def PX12_isDirect (a0 : Int32) (a1 : Int32) (h : ph_H) : Prop := vp_in a0 301 ∧ (vp_in a1 301 ∧ (((h 29 (a0.toNatClampNeg)) = (h 29 (a1.toNatClampNeg)) → (True)) ∧ (¬ (h 29 (a0.toNatClampNeg)) = (h 29 (a1.toNatClampNeg)) → (vp_in a0 301 ∧ (((h 34 (a0.toNatClampNeg)) = 2 → (vp_in a1 301 ∧ (((h 34 (a1.toNatClampNeg)) = 1 → (vp_in a0 301 ∧ (vp_in a1 301 ∧ (((h 35 (a0.toNatClampNeg)) = (h 35 (a1.toNatClampNeg)) → (PX12_isDirect_57  a0 a1 1 h)) ∧ (¬ (h 35 (a0.toNatClampNeg)) = (h 35 (a1.toNatClampNeg)) → (PX12_isDirect_56  a0 a1 h)))))) ∧ (¬ (h 34 (a1.toNatClampNeg)) = 1 → (PX12_isDirect_56  a0 a1 h))))) ∧ (¬ (h 34 (a0.toNatClampNeg)) = 2 → (PX12_isDirect_56  a0 a1 h)))))))
set_option maxRecDepth 100000 in
set_option maxHeartbeats 4000000 in
theorem tX12_isDirect {X : fj_X} {Y : fj_Y} {l0 : Launch} {ad : Nat → Nat} (C : FC X Y l0 cX12_isDirect 5 RX12 ({ frames := 1, cells := 0, slots := 0, locals := 25 } : Room) 0 0 (some .boolean)) (a0 : Int32) (a1 : Int32) (h : ph_H) (hP : PX12_isDirect a0 a1 h) (hR : RETq X Y ad 50 SM h cX12_isDirect (FX12_isDirect a0 a1 h)) : FJ X Y ad 50 SM h 0 [(0, .ref (ad 0)), (1, .int a0), (2, .int a1)] [] := by
  unfold PX12_isDirect at hP
  unfold FX12_isDirect at hR
  refine j_aload_n C dX12_isDirect_0 rfl rfl ?_
  refine gM_96 C dX12_isDirect_1 ?_
  refine j_iload_n C dX12_isDirect_4 rfl rfl ?_
  obtain ⟨p3, hP⟩ := hP
  refine j_iald (k := 29) (v := (h 29 (a0.toNatClampNeg))) C dX12_isDirect_5 (by decide) rfl p3 rfl ?_
  refine j_aload_n C dX12_isDirect_6 rfl rfl ?_
  refine gM_96 C dX12_isDirect_7 ?_
  refine j_iload_n C dX12_isDirect_10 rfl rfl ?_
  obtain ⟨p8, hP⟩ := hP
  refine j_iald (k := 29) (v := (h 29 (a1.toNatClampNeg))) C dX12_isDirect_11 (by decide) rfl p8 rfl ?_
  refine j_icmp_ne (tgt := 17) C dX12_isDirect_12 (by decide) (fun c0 => ?_) (fun c0 => ?_)
  · have hP := hP.2 c0
    rw [if_neg c0] at hR
    refine j_aload_n C dX12_isDirect_17 rfl rfl ?_
    refine gM_111 C dX12_isDirect_18 ?_
    refine j_iload_n C dX12_isDirect_21 rfl rfl ?_
    obtain ⟨p3, hP⟩ := hP
    refine j_iald (k := 34) (v := (h 34 (a0.toNatClampNeg))) C dX12_isDirect_22 (by decide) rfl p3 rfl ?_
    refine j_iconst (v := 2) C dX12_isDirect_23 (by decide) ?_
    refine j_icmp_ne (tgt := 56) C dX12_isDirect_24 (by decide) (fun c1 => ?_) (fun c1 => ?_)
    · have hP := hP.2 c1
      rw [if_neg c1] at hR
      exact j_vl (tX12_isDirect_56 C h a0 a1 hP hR) ⟨rfl, rfl, rfl, trivial⟩
    · have hP := hP.1 c1
      rw [if_pos c1] at hR
      refine j_aload_n C dX12_isDirect_27 rfl rfl ?_
      refine gM_111 C dX12_isDirect_28 ?_
      refine j_iload_n C dX12_isDirect_31 rfl rfl ?_
      obtain ⟨p3, hP⟩ := hP
      refine j_iald (k := 34) (v := (h 34 (a1.toNatClampNeg))) C dX12_isDirect_32 (by decide) rfl p3 rfl ?_
      refine j_iconst (v := 1) C dX12_isDirect_33 (by decide) ?_
      refine j_icmp_ne (tgt := 56) C dX12_isDirect_34 (by decide) (fun c2 => ?_) (fun c2 => ?_)
      · have hP := hP.2 c2
        rw [if_neg c2] at hR
        exact j_vl (tX12_isDirect_56 C h a0 a1 hP hR) ⟨rfl, rfl, rfl, trivial⟩
      · have hP := hP.1 c2
        rw [if_pos c2] at hR
        refine j_aload_n C dX12_isDirect_37 rfl rfl ?_
        refine gM_114 C dX12_isDirect_38 ?_
        refine j_iload_n C dX12_isDirect_41 rfl rfl ?_
        obtain ⟨p3, hP⟩ := hP
        refine j_iald (k := 35) (v := (h 35 (a0.toNatClampNeg))) C dX12_isDirect_42 (by decide) rfl p3 rfl ?_
        refine j_aload_n C dX12_isDirect_43 rfl rfl ?_
        refine gM_114 C dX12_isDirect_44 ?_
        refine j_iload_n C dX12_isDirect_47 rfl rfl ?_
        obtain ⟨p8, hP⟩ := hP
        refine j_iald (k := 35) (v := (h 35 (a1.toNatClampNeg))) C dX12_isDirect_48 (by decide) rfl p8 rfl ?_
        refine j_icmp_ne (tgt := 56) C dX12_isDirect_49 (by decide) (fun c3 => ?_) (fun c3 => ?_)
        · have hP := hP.2 c3
          rw [if_neg c3] at hR
          exact j_vl (tX12_isDirect_56 C h a0 a1 hP hR) ⟨rfl, rfl, rfl, trivial⟩
        · have hP := hP.1 c3
          rw [if_pos c3] at hR
          refine j_iconst (v := 1) C dX12_isDirect_52 (by decide) ?_
          refine j_goto (tgt := 57) C dX12_isDirect_53 (by decide) ?_
          exact j_vl (tX12_isDirect_57 C h a0 a1 1 hP hR) ⟨rfl, rfl, rfl, trivial⟩
  · have hP := hP.1 c0
    rw [if_pos c0] at hR
    refine j_iconst (v := 1) C dX12_isDirect_15 (by decide) ?_
    exact hR bo_1 _ _ dX12_isDirect_16
theorem MX12_isDirect {l0 : Launch} {Y : fj_Y} {ad : Nat → Nat} (a0 : Int32) (a1 : Int32) (h : ph_H) (hP : PX12_isDirect a0 a1 h) : MI l0 yX12_isDirect cX12_isDirect 5 (some .boolean) ({ frames := 1, cells := 0, slots := 0, locals := 25 } : Room) Y ad 50 SM h [.ref (ad 0), .int a0, .int a1] (fun r S' h' => S' = SM ∧ h' = h ∧ r = FX12_isDirect a0 a1 h ∧ bo r) := met_i (by decide) (Nat.le_of_ble_eq_true rfl) (fun _ _ _ q => bo_n q.2.2.2) (fun X C K => j_vl (tX12_isDirect C a0 a1 h hP (fun b pc lv hd => K _ _ _ ⟨rfl, rfl, rfl, b⟩ pc lv hd)) ⟨rfl, rfl, rfl, trivial⟩)

-- X12_findAhead
def FX12_findAhead_147 (L15 : Int32 → ph_H → ph_H) (L53 : Int32 → Int32 → ph_H → ph_H) (L96 : Int32 → Int32 → Int32 → ph_H → ph_H) (x1 : Int32) (x2 : Int32) (x3 : Int32) (s0 : Int32) (s1 : Int32) (h : ph_H) : ph_H := L96 x1 x2 (x3 + 1) (hs h 39 s1.toNatClampNeg (vp_nar .boolean s0))
def PX12_findAhead_147 (LP15 : Int32 → ph_H → Prop) (LP53 : Int32 → Int32 → ph_H → Prop) (LP96 : Int32 → Int32 → Int32 → ph_H → Prop) (x1 : Int32) (x2 : Int32) (x3 : Int32) (s0 : Int32) (s1 : Int32) (h : ph_H) : Prop := vp_in s1 90601 ∧ (LP96 x1 x2 (x3 + 1) (hs h 39 s1.toNatClampNeg (vp_nar .boolean s0)))
set_option maxRecDepth 100000 in
set_option maxHeartbeats 4000000 in
theorem tX12_findAhead_147 {X : fj_X} {Y : fj_Y} {l0 : Launch} {ad : Nat → Nat} (C : FC X Y l0 cX12_findAhead 4 RX12 ({ frames := 2, cells := 0, slots := 0, locals := 49 } : Room) 0 0 none) (L15 : Int32 → ph_H → ph_H) (LP15 : Int32 → ph_H → Prop) (hL15 : ∀ (x1 : Int32) (h : ph_H), LP15 x1 h → RETv X Y ad 50 SM cX12_findAhead (L15 x1 h) → FJ X Y ad 50 SM h 15 [(0, .ref (ad 0)), (1, .int x1)] []) (L53 : Int32 → Int32 → ph_H → ph_H) (LP53 : Int32 → Int32 → ph_H → Prop) (hL53 : ∀ (x1 : Int32) (x2 : Int32) (h : ph_H), LP53 x1 x2 h → RETv X Y ad 50 SM cX12_findAhead (L53 x1 x2 h) → FJ X Y ad 50 SM h 53 [(0, .ref (ad 0)), (1, .int x1), (2, .int x2)] []) (L96 : Int32 → Int32 → Int32 → ph_H → ph_H) (LP96 : Int32 → Int32 → Int32 → ph_H → Prop) (hL96 : ∀ (x1 : Int32) (x2 : Int32) (x3 : Int32) (h : ph_H), LP96 x1 x2 x3 h → RETv X Y ad 50 SM cX12_findAhead (L96 x1 x2 x3 h) → FJ X Y ad 50 SM h 96 [(0, .ref (ad 0)), (1, .int x1), (2, .int x2), (3, .int x3)] []) (x1 : Int32) (x2 : Int32) (x3 : Int32) (s0 : Int32) (s1 : Int32) (h : ph_H) (hP : PX12_findAhead_147 LP15 LP53 LP96 x1 x2 x3 s0 s1 h) (hR : RETv X Y ad 50 SM cX12_findAhead (FX12_findAhead_147 L15 L53 L96 x1 x2 x3 s0 s1 h)) : FJ X Y ad 50 SM h 147 [(0, .ref (ad 0)), (1, .int x1), (2, .int x2), (3, .int x3)] [.int s0, .int s1, .ref (ad 39)] := by
  unfold PX12_findAhead_147 at hP
  unfold FX12_findAhead_147 at hR
  obtain ⟨p0, hP⟩ := hP
  refine j_zast (k := 39) C dX12_findAhead_147 (by decide) rfl p0 ?_
  refine j_iinc (v := (x3 + 1)) C dX12_findAhead_148 rfl rfl (by decide) rfl ?_
  refine j_goto (tgt := 96) C dX12_findAhead_151 (by decide) ?_
  exact j_vl (hL96 x1 x2 (x3 + 1) (hs h 39 s1.toNatClampNeg (vp_nar .boolean s0)) hP hR) ⟨rfl, rfl, rfl, rfl, trivial⟩
def FX12_findAhead_142 (L15 : Int32 → ph_H → ph_H) (L53 : Int32 → Int32 → ph_H → ph_H) (L96 : Int32 → Int32 → Int32 → ph_H → ph_H) (x1 : Int32) (x2 : Int32) (x3 : Int32) (s0 : Int32) (h : ph_H) : ph_H := FX12_findAhead_147 L15 L53 L96 x1 x2 x3 1 s0 h
def PX12_findAhead_142 (LP15 : Int32 → ph_H → Prop) (LP53 : Int32 → Int32 → ph_H → Prop) (LP96 : Int32 → Int32 → Int32 → ph_H → Prop) (x1 : Int32) (x2 : Int32) (x3 : Int32) (s0 : Int32) (h : ph_H) : Prop := PX12_findAhead_147 LP15 LP53 LP96 x1 x2 x3 1 s0 h
set_option maxRecDepth 100000 in
set_option maxHeartbeats 4000000 in
theorem tX12_findAhead_142 {X : fj_X} {Y : fj_Y} {l0 : Launch} {ad : Nat → Nat} (C : FC X Y l0 cX12_findAhead 4 RX12 ({ frames := 2, cells := 0, slots := 0, locals := 49 } : Room) 0 0 none) (L15 : Int32 → ph_H → ph_H) (LP15 : Int32 → ph_H → Prop) (hL15 : ∀ (x1 : Int32) (h : ph_H), LP15 x1 h → RETv X Y ad 50 SM cX12_findAhead (L15 x1 h) → FJ X Y ad 50 SM h 15 [(0, .ref (ad 0)), (1, .int x1)] []) (L53 : Int32 → Int32 → ph_H → ph_H) (LP53 : Int32 → Int32 → ph_H → Prop) (hL53 : ∀ (x1 : Int32) (x2 : Int32) (h : ph_H), LP53 x1 x2 h → RETv X Y ad 50 SM cX12_findAhead (L53 x1 x2 h) → FJ X Y ad 50 SM h 53 [(0, .ref (ad 0)), (1, .int x1), (2, .int x2)] []) (L96 : Int32 → Int32 → Int32 → ph_H → ph_H) (LP96 : Int32 → Int32 → Int32 → ph_H → Prop) (hL96 : ∀ (x1 : Int32) (x2 : Int32) (x3 : Int32) (h : ph_H), LP96 x1 x2 x3 h → RETv X Y ad 50 SM cX12_findAhead (L96 x1 x2 x3 h) → FJ X Y ad 50 SM h 96 [(0, .ref (ad 0)), (1, .int x1), (2, .int x2), (3, .int x3)] []) (x1 : Int32) (x2 : Int32) (x3 : Int32) (s0 : Int32) (h : ph_H) (hP : PX12_findAhead_142 LP15 LP53 LP96 x1 x2 x3 s0 h) (hR : RETv X Y ad 50 SM cX12_findAhead (FX12_findAhead_142 L15 L53 L96 x1 x2 x3 s0 h)) : FJ X Y ad 50 SM h 142 [(0, .ref (ad 0)), (1, .int x1), (2, .int x2), (3, .int x3)] [.int s0, .ref (ad 39)] := by
  unfold PX12_findAhead_142 at hP
  unfold FX12_findAhead_142 at hR
  refine j_iconst (v := 1) C dX12_findAhead_142 (by decide) ?_
  refine j_goto (tgt := 147) C dX12_findAhead_143 (by decide) ?_
  exact j_vl (tX12_findAhead_147 C L15 LP15 hL15 L53 LP53 hL53 L96 LP96 hL96 x1 x2 x3 1 s0 h hP hR) ⟨rfl, rfl, rfl, rfl, trivial⟩
def FX12_findAhead_154 (L15 : Int32 → ph_H → ph_H) (L53 : Int32 → Int32 → ph_H → ph_H) (x1 : Int32) (x2 : Int32) (h : ph_H) : ph_H := L53 x1 (x2 + (-1)) h
def PX12_findAhead_154 (LP15 : Int32 → ph_H → Prop) (LP53 : Int32 → Int32 → ph_H → Prop) (x1 : Int32) (x2 : Int32) (h : ph_H) : Prop := LP53 x1 (x2 + (-1)) h
set_option maxRecDepth 100000 in
set_option maxHeartbeats 4000000 in
theorem tX12_findAhead_154 {X : fj_X} {Y : fj_Y} {l0 : Launch} {ad : Nat → Nat} (C : FC X Y l0 cX12_findAhead 4 RX12 ({ frames := 2, cells := 0, slots := 0, locals := 49 } : Room) 0 0 none) (L15 : Int32 → ph_H → ph_H) (LP15 : Int32 → ph_H → Prop) (hL15 : ∀ (x1 : Int32) (h : ph_H), LP15 x1 h → RETv X Y ad 50 SM cX12_findAhead (L15 x1 h) → FJ X Y ad 50 SM h 15 [(0, .ref (ad 0)), (1, .int x1)] []) (L53 : Int32 → Int32 → ph_H → ph_H) (LP53 : Int32 → Int32 → ph_H → Prop) (hL53 : ∀ (x1 : Int32) (x2 : Int32) (h : ph_H), LP53 x1 x2 h → RETv X Y ad 50 SM cX12_findAhead (L53 x1 x2 h) → FJ X Y ad 50 SM h 53 [(0, .ref (ad 0)), (1, .int x1), (2, .int x2)] []) (x1 : Int32) (x2 : Int32) (h : ph_H) (hP : PX12_findAhead_154 LP15 LP53 x1 x2 h) (hR : RETv X Y ad 50 SM cX12_findAhead (FX12_findAhead_154 L15 L53 x1 x2 h)) : FJ X Y ad 50 SM h 154 [(0, .ref (ad 0)), (1, .int x1), (2, .int x2)] [] := by
  unfold PX12_findAhead_154 at hP
  unfold FX12_findAhead_154 at hR
  refine j_iinc (v := (x2 + (-1))) C dX12_findAhead_154 rfl rfl (by decide) rfl ?_
  refine j_goto (tgt := 53) C dX12_findAhead_157 (by decide) ?_
  exact j_vl (hL53 x1 (x2 + (-1)) h hP hR) ⟨rfl, rfl, rfl, trivial⟩
def FX12_findAhead_96 (L15 : Int32 → ph_H → ph_H) (L53 : Int32 → Int32 → ph_H → ph_H) : Nat → Int32 → Int32 → Int32 → ph_H → ph_H
  | 0, _, _, _, h => h
  | q + 1, x1, x2, x3, h => if x2 ≤ x3 then (FX12_findAhead_154 L15 L53 x1 x2 h) else (if (h 39 (((301 * x3) + x1).toNatClampNeg)) = 0 then (if (h 39 (((301 * x3) + x2).toNatClampNeg)) = 0 then (FX12_findAhead_147 L15 L53 (FX12_findAhead_96 L15 L53 q) x1 x2 x3 0 ((301 * x3) + x1) h) else (FX12_findAhead_142 L15 L53 (FX12_findAhead_96 L15 L53 q) x1 x2 x3 ((301 * x3) + x1) h)) else (FX12_findAhead_142 L15 L53 (FX12_findAhead_96 L15 L53 q) x1 x2 x3 ((301 * x3) + x1) h))
def PX12_findAhead_96 (LP15 : Int32 → ph_H → Prop) (LP53 : Int32 → Int32 → ph_H → Prop) : Nat → Int32 → Int32 → Int32 → ph_H → Prop
  | 0, _, _, _, _ => False
  | q + 1, x1, x2, x3, h => (x2 ≤ x3 → (PX12_findAhead_154 LP15 LP53 x1 x2 h)) ∧ (¬ x2 ≤ x3 → (vp_in ((301 * x3) + x1) 90601 ∧ (((h 39 (((301 * x3) + x1).toNatClampNeg)) = 0 → (vp_in ((301 * x3) + x2) 90601 ∧ (((h 39 (((301 * x3) + x2).toNatClampNeg)) = 0 → (PX12_findAhead_147 LP15 LP53 (PX12_findAhead_96 LP15 LP53 q) x1 x2 x3 0 ((301 * x3) + x1) h)) ∧ (¬ (h 39 (((301 * x3) + x2).toNatClampNeg)) = 0 → (PX12_findAhead_142 LP15 LP53 (PX12_findAhead_96 LP15 LP53 q) x1 x2 x3 ((301 * x3) + x1) h))))) ∧ (¬ (h 39 (((301 * x3) + x1).toNatClampNeg)) = 0 → (PX12_findAhead_142 LP15 LP53 (PX12_findAhead_96 LP15 LP53 q) x1 x2 x3 ((301 * x3) + x1) h)))))
set_option maxRecDepth 100000 in
set_option maxHeartbeats 4000000 in
theorem tX12_findAhead_96 {X : fj_X} {Y : fj_Y} {l0 : Launch} {ad : Nat → Nat} (C : FC X Y l0 cX12_findAhead 4 RX12 ({ frames := 2, cells := 0, slots := 0, locals := 49 } : Room) 0 0 none) (L15 : Int32 → ph_H → ph_H) (LP15 : Int32 → ph_H → Prop) (hL15 : ∀ (x1 : Int32) (h : ph_H), LP15 x1 h → RETv X Y ad 50 SM cX12_findAhead (L15 x1 h) → FJ X Y ad 50 SM h 15 [(0, .ref (ad 0)), (1, .int x1)] []) (L53 : Int32 → Int32 → ph_H → ph_H) (LP53 : Int32 → Int32 → ph_H → Prop) (hL53 : ∀ (x1 : Int32) (x2 : Int32) (h : ph_H), LP53 x1 x2 h → RETv X Y ad 50 SM cX12_findAhead (L53 x1 x2 h) → FJ X Y ad 50 SM h 53 [(0, .ref (ad 0)), (1, .int x1), (2, .int x2)] []) : ∀ (q : Nat) (x1 : Int32) (x2 : Int32) (x3 : Int32) (h : ph_H), PX12_findAhead_96 LP15 LP53 q x1 x2 x3 h → RETv X Y ad 50 SM cX12_findAhead (FX12_findAhead_96 L15 L53 q x1 x2 x3 h) → FJ X Y ad 50 SM h 96 [(0, .ref (ad 0)), (1, .int x1), (2, .int x2), (3, .int x3)] [] := by
  intro q
  induction q with
  | zero =>
    intro x1 x2 x3 h hP hR
    exact absurd hP id
  | succ q ih =>
    intro x1 x2 x3 h hP hR
    unfold PX12_findAhead_96 at hP
    unfold FX12_findAhead_96 at hR
    refine j_iload_n C dX12_findAhead_96 rfl rfl ?_
    refine j_iload_n C dX12_findAhead_97 rfl rfl ?_
    refine j_icmp_ge (tgt := 154) C dX12_findAhead_98 (by decide) (fun c0 => ?_) (fun c0 => ?_)
    · have hP := hP.1 c0
      rw [if_pos c0] at hR
      exact j_vl (tX12_findAhead_154 C L15 LP15 hL15 L53 LP53 hL53 x1 x2 h hP hR) ⟨rfl, rfl, rfl, trivial⟩
    · have hP := hP.2 c0
      rw [if_neg c0] at hR
      refine j_aload_n C dX12_findAhead_101 rfl rfl ?_
      refine gM_127 C dX12_findAhead_102 ?_
      refine j_sipush (v := 301) C dX12_findAhead_105 (by decide) ?_
      refine j_iload_n C dX12_findAhead_108 rfl rfl ?_
      refine j_imul C dX12_findAhead_109 ?_
      refine j_iload_n C dX12_findAhead_110 rfl rfl ?_
      refine j_iadd C dX12_findAhead_111 ?_
      refine j_aload_n C dX12_findAhead_112 rfl rfl ?_
      refine gM_127 C dX12_findAhead_113 ?_
      refine j_sipush (v := 301) C dX12_findAhead_116 (by decide) ?_
      refine j_iload_n C dX12_findAhead_119 rfl rfl ?_
      refine j_imul C dX12_findAhead_120 ?_
      refine j_iload_n C dX12_findAhead_121 rfl rfl ?_
      refine j_iadd C dX12_findAhead_122 ?_
      obtain ⟨p14, hP⟩ := hP
      refine j_zald (k := 39) (v := (h 39 (((301 * x3) + x1).toNatClampNeg))) C dX12_findAhead_123 (by decide) rfl p14 rfl ?_
      refine j_if_ne (tgt := 142) C dX12_findAhead_124 (by decide) (fun c1 => ?_) (fun c1 => ?_)
      · have hP := hP.2 c1
        rw [if_neg c1] at hR
        exact j_vl (tX12_findAhead_142 C L15 LP15 hL15 L53 LP53 hL53 (FX12_findAhead_96 L15 L53 q) (PX12_findAhead_96 LP15 LP53 q) (ih) x1 x2 x3 ((301 * x3) + x1) h hP hR) ⟨rfl, rfl, rfl, rfl, trivial⟩
      · have hP := hP.1 c1
        rw [if_pos c1] at hR
        refine j_aload_n C dX12_findAhead_127 rfl rfl ?_
        refine gM_127 C dX12_findAhead_128 ?_
        refine j_sipush (v := 301) C dX12_findAhead_131 (by decide) ?_
        refine j_iload_n C dX12_findAhead_134 rfl rfl ?_
        refine j_imul C dX12_findAhead_135 ?_
        refine j_iload_n C dX12_findAhead_136 rfl rfl ?_
        refine j_iadd C dX12_findAhead_137 ?_
        obtain ⟨p7, hP⟩ := hP
        refine j_zald (k := 39) (v := (h 39 (((301 * x3) + x2).toNatClampNeg))) C dX12_findAhead_138 (by decide) rfl p7 rfl ?_
        refine j_if_eq (tgt := 146) C dX12_findAhead_139 (by decide) (fun c2 => ?_) (fun c2 => ?_)
        · have hP := hP.1 c2
          rw [if_pos c2] at hR
          refine j_iconst (v := 0) C dX12_findAhead_146 (by decide) ?_
          exact j_vl (tX12_findAhead_147 C L15 LP15 hL15 L53 LP53 hL53 (FX12_findAhead_96 L15 L53 q) (PX12_findAhead_96 LP15 LP53 q) (ih) x1 x2 x3 0 ((301 * x3) + x1) h hP hR) ⟨rfl, rfl, rfl, rfl, trivial⟩
        · have hP := hP.2 c2
          rw [if_neg c2] at hR
          exact j_vl (tX12_findAhead_142 C L15 LP15 hL15 L53 LP53 hL53 (FX12_findAhead_96 L15 L53 q) (PX12_findAhead_96 LP15 LP53 q) (ih) x1 x2 x3 ((301 * x3) + x1) h hP hR) ⟨rfl, rfl, rfl, rfl, trivial⟩
def FX12_findAhead_53 (L15 : Int32 → ph_H → ph_H) : Nat → Int32 → Int32 → ph_H → ph_H
  | 0, _, _, h => h
  | q + 1, x1, x2, h => if x2 ≤ 0 then (L15 (x1 + 1) h) else (if (h 39 (((301 * x2) + x1).toNatClampNeg)) = 0 then (if (FX12_isDirect x2 x1 h) = 0 then (FX12_findAhead_154 L15 (FX12_findAhead_53 L15 q) x1 x2 h) else (FX12_findAhead_96 L15 (FX12_findAhead_53 L15 q) 2000 x1 x2 1 (hs h 39 ((301 * x2) + x1).toNatClampNeg (vp_nar .boolean 1)))) else (FX12_findAhead_154 L15 (FX12_findAhead_53 L15 q) x1 x2 h))
def PX12_findAhead_53 (LP15 : Int32 → ph_H → Prop) : Nat → Int32 → Int32 → ph_H → Prop
  | 0, _, _, _ => False
  | q + 1, x1, x2, h => (x2 ≤ 0 → (LP15 (x1 + 1) h)) ∧ (¬ x2 ≤ 0 → (vp_in ((301 * x2) + x1) 90601 ∧ (((h 39 (((301 * x2) + x1).toNatClampNeg)) = 0 → ((PX12_isDirect x2 x1 h) ∧ (((FX12_isDirect x2 x1 h) = 0 → (PX12_findAhead_154 LP15 (PX12_findAhead_53 LP15 q) x1 x2 h)) ∧ (¬ (FX12_isDirect x2 x1 h) = 0 → (vp_in ((301 * x2) + x1) 90601 ∧ (PX12_findAhead_96 LP15 (PX12_findAhead_53 LP15 q) 2000 x1 x2 1 (hs h 39 ((301 * x2) + x1).toNatClampNeg (vp_nar .boolean 1)))))))) ∧ (¬ (h 39 (((301 * x2) + x1).toNatClampNeg)) = 0 → (PX12_findAhead_154 LP15 (PX12_findAhead_53 LP15 q) x1 x2 h)))))
set_option maxRecDepth 100000 in
set_option maxHeartbeats 4000000 in
theorem tX12_findAhead_53 {X : fj_X} {Y : fj_Y} {l0 : Launch} {ad : Nat → Nat} (C : FC X Y l0 cX12_findAhead 4 RX12 ({ frames := 2, cells := 0, slots := 0, locals := 49 } : Room) 0 0 none) (L15 : Int32 → ph_H → ph_H) (LP15 : Int32 → ph_H → Prop) (hL15 : ∀ (x1 : Int32) (h : ph_H), LP15 x1 h → RETv X Y ad 50 SM cX12_findAhead (L15 x1 h) → FJ X Y ad 50 SM h 15 [(0, .ref (ad 0)), (1, .int x1)] []) : ∀ (q : Nat) (x1 : Int32) (x2 : Int32) (h : ph_H), PX12_findAhead_53 LP15 q x1 x2 h → RETv X Y ad 50 SM cX12_findAhead (FX12_findAhead_53 L15 q x1 x2 h) → FJ X Y ad 50 SM h 53 [(0, .ref (ad 0)), (1, .int x1), (2, .int x2)] [] := by
  intro q
  induction q with
  | zero =>
    intro x1 x2 h hP hR
    exact absurd hP id
  | succ q ih =>
    intro x1 x2 h hP hR
    unfold PX12_findAhead_53 at hP
    unfold FX12_findAhead_53 at hR
    refine j_iload_n C dX12_findAhead_53 rfl rfl ?_
    refine j_if_le (tgt := 160) C dX12_findAhead_54 (by decide) (fun c0 => ?_) (fun c0 => ?_)
    · have hP := hP.1 c0
      rw [if_pos c0] at hR
      refine j_iinc (v := (x1 + 1)) C dX12_findAhead_160 rfl rfl (by decide) rfl ?_
      refine j_goto (tgt := 15) C dX12_findAhead_163 (by decide) ?_
      exact j_vl (hL15 (x1 + 1) h hP hR) ⟨rfl, rfl, trivial⟩
    · have hP := hP.2 c0
      rw [if_neg c0] at hR
      refine j_aload_n C dX12_findAhead_57 rfl rfl ?_
      refine gM_127 C dX12_findAhead_58 ?_
      refine j_sipush (v := 301) C dX12_findAhead_61 (by decide) ?_
      refine j_iload_n C dX12_findAhead_64 rfl rfl ?_
      refine j_imul C dX12_findAhead_65 ?_
      refine j_iload_n C dX12_findAhead_66 rfl rfl ?_
      refine j_iadd C dX12_findAhead_67 ?_
      obtain ⟨p7, hP⟩ := hP
      refine j_zald (k := 39) (v := (h 39 (((301 * x2) + x1).toNatClampNeg))) C dX12_findAhead_68 (by decide) rfl p7 rfl ?_
      refine j_if_ne (tgt := 154) C dX12_findAhead_69 (by decide) (fun c1 => ?_) (fun c1 => ?_)
      · have hP := hP.2 c1
        rw [if_neg c1] at hR
        exact j_vl (tX12_findAhead_154 C L15 LP15 hL15 (FX12_findAhead_53 L15 q) (PX12_findAhead_53 LP15 q) (ih) x1 x2 h hP hR) ⟨rfl, rfl, rfl, trivial⟩
      · have hP := hP.1 c1
        rw [if_pos c1] at hR
        refine j_aload_n C dX12_findAhead_72 rfl rfl ?_
        refine j_iload_n C dX12_findAhead_73 rfl rfl ?_
        refine j_iload_n C dX12_findAhead_74 rfl rfl ?_
        obtain ⟨p3, hP⟩ := hP
        refine j_callV C (MX12_isDirect x2 x1 h p3) dX12_findAhead_75 (CKX12_isDirect (by decide)) ⟨rfl, rfl⟩ lk_RX12_331 in_X12_isDirect se_X12_isDirect (by decide) rfl rfl rfl (Nat.le_of_ble_eq_true rfl) ?_
        intro r S' h' hq
        obtain ⟨rfl, hh, rfl, hb5⟩ := hq
        rw [hh]
        refine j_if_eq (tgt := 154) C dX12_findAhead_78 (by decide) (fun c2 => ?_) (fun c2 => ?_)
        · have hP := hP.1 c2
          rw [if_pos c2] at hR
          exact j_vl (tX12_findAhead_154 C L15 LP15 hL15 (FX12_findAhead_53 L15 q) (PX12_findAhead_53 LP15 q) (ih) x1 x2 h hP hR) ⟨rfl, rfl, rfl, trivial⟩
        · have hP := hP.2 c2
          rw [if_neg c2] at hR
          refine j_aload_n C dX12_findAhead_81 rfl rfl ?_
          refine gM_127 C dX12_findAhead_82 ?_
          refine j_sipush (v := 301) C dX12_findAhead_85 (by decide) ?_
          refine j_iload_n C dX12_findAhead_88 rfl rfl ?_
          refine j_imul C dX12_findAhead_89 ?_
          refine j_iload_n C dX12_findAhead_90 rfl rfl ?_
          refine j_iadd C dX12_findAhead_91 ?_
          refine j_iconst (v := 1) C dX12_findAhead_92 (by decide) ?_
          obtain ⟨p8, hP⟩ := hP
          refine j_zast (k := 39) C dX12_findAhead_93 (by decide) rfl p8 ?_
          refine j_iconst (v := 1) C dX12_findAhead_94 (by decide) ?_
          refine j_istore_n C dX12_findAhead_95 rfl (by decide) rfl ?_
          exact j_vl (tX12_findAhead_96 C L15 LP15 hL15 (FX12_findAhead_53 L15 q) (PX12_findAhead_53 LP15 q) (ih) 2000 x1 x2 1 (hs h 39 ((301 * x2) + x1).toNatClampNeg (vp_nar .boolean 1)) hP hR) ⟨rfl, rfl, rfl, rfl, trivial⟩
def FX12_findAhead_25 (L15 : Int32 → ph_H → ph_H) : Nat → Int32 → Int32 → ph_H → ph_H
  | 0, _, _, h => h
  | q + 1, x1, x2, h => if x1 ≤ x2 then (FX12_findAhead_53 L15 2000 x1 (x1 - 1) h) else (FX12_findAhead_25 L15 q x1 (x2 + 1) (hs h 39 ((301 * x2) + x1).toNatClampNeg (vp_nar .boolean 0)))
def PX12_findAhead_25 (LP15 : Int32 → ph_H → Prop) : Nat → Int32 → Int32 → ph_H → Prop
  | 0, _, _, _ => False
  | q + 1, x1, x2, h => (x1 ≤ x2 → (PX12_findAhead_53 LP15 2000 x1 (x1 - 1) h)) ∧ (¬ x1 ≤ x2 → (vp_in ((301 * x2) + x1) 90601 ∧ (PX12_findAhead_25 LP15 q x1 (x2 + 1) (hs h 39 ((301 * x2) + x1).toNatClampNeg (vp_nar .boolean 0)))))
set_option maxRecDepth 100000 in
set_option maxHeartbeats 4000000 in
theorem tX12_findAhead_25 {X : fj_X} {Y : fj_Y} {l0 : Launch} {ad : Nat → Nat} (C : FC X Y l0 cX12_findAhead 4 RX12 ({ frames := 2, cells := 0, slots := 0, locals := 49 } : Room) 0 0 none) (L15 : Int32 → ph_H → ph_H) (LP15 : Int32 → ph_H → Prop) (hL15 : ∀ (x1 : Int32) (h : ph_H), LP15 x1 h → RETv X Y ad 50 SM cX12_findAhead (L15 x1 h) → FJ X Y ad 50 SM h 15 [(0, .ref (ad 0)), (1, .int x1)] []) : ∀ (q : Nat) (x1 : Int32) (x2 : Int32) (h : ph_H), PX12_findAhead_25 LP15 q x1 x2 h → RETv X Y ad 50 SM cX12_findAhead (FX12_findAhead_25 L15 q x1 x2 h) → FJ X Y ad 50 SM h 25 [(0, .ref (ad 0)), (1, .int x1), (2, .int x2)] [] := by
  intro q
  induction q with
  | zero =>
    intro x1 x2 h hP hR
    exact absurd hP id
  | succ q ih =>
    intro x1 x2 h hP hR
    unfold PX12_findAhead_25 at hP
    unfold FX12_findAhead_25 at hR
    refine j_iload_n C dX12_findAhead_25 rfl rfl ?_
    refine j_iload_n C dX12_findAhead_26 rfl rfl ?_
    refine j_icmp_ge (tgt := 49) C dX12_findAhead_27 (by decide) (fun c0 => ?_) (fun c0 => ?_)
    · have hP := hP.1 c0
      rw [if_pos c0] at hR
      refine j_iload_n C dX12_findAhead_49 rfl rfl ?_
      refine j_iconst (v := 1) C dX12_findAhead_50 (by decide) ?_
      refine j_isub C dX12_findAhead_51 ?_
      refine j_istore_n C dX12_findAhead_52 rfl (by decide) rfl ?_
      exact j_vl (tX12_findAhead_53 C L15 LP15 hL15 2000 x1 (x1 - 1) h hP hR) ⟨rfl, rfl, rfl, trivial⟩
    · have hP := hP.2 c0
      rw [if_neg c0] at hR
      refine j_aload_n C dX12_findAhead_30 rfl rfl ?_
      refine gM_127 C dX12_findAhead_31 ?_
      refine j_sipush (v := 301) C dX12_findAhead_34 (by decide) ?_
      refine j_iload_n C dX12_findAhead_37 rfl rfl ?_
      refine j_imul C dX12_findAhead_38 ?_
      refine j_iload_n C dX12_findAhead_39 rfl rfl ?_
      refine j_iadd C dX12_findAhead_40 ?_
      refine j_iconst (v := 0) C dX12_findAhead_41 (by decide) ?_
      obtain ⟨p8, hP⟩ := hP
      refine j_zast (k := 39) C dX12_findAhead_42 (by decide) rfl p8 ?_
      refine j_iinc (v := (x2 + 1)) C dX12_findAhead_43 rfl rfl (by decide) rfl ?_
      refine j_goto (tgt := 25) C dX12_findAhead_46 (by decide) ?_
      exact j_vl (ih x1 (x2 + 1) (hs h 39 ((301 * x2) + x1).toNatClampNeg (vp_nar .boolean 0)) hP hR) ⟨rfl, rfl, rfl, trivial⟩
def FX12_findAhead_15  : Nat → Int32 → ph_H → ph_H
  | 0, _, h => h
  | q + 1, x1, h => if (h 0 38) < x1 then (h) else (FX12_findAhead_25 (FX12_findAhead_15  q) 2000 x1 1 h)
def PX12_findAhead_15  : Nat → Int32 → ph_H → Prop
  | 0, _, _ => False
  | q + 1, x1, h => ((h 0 38) < x1 → (True)) ∧ (¬ (h 0 38) < x1 → (PX12_findAhead_25 (PX12_findAhead_15  q) 2000 x1 1 h))
set_option maxRecDepth 100000 in
set_option maxHeartbeats 4000000 in
theorem tX12_findAhead_15 {X : fj_X} {Y : fj_Y} {l0 : Launch} {ad : Nat → Nat} (C : FC X Y l0 cX12_findAhead 4 RX12 ({ frames := 2, cells := 0, slots := 0, locals := 49 } : Room) 0 0 none) : ∀ (q : Nat) (x1 : Int32) (h : ph_H), PX12_findAhead_15  q x1 h → RETv X Y ad 50 SM cX12_findAhead (FX12_findAhead_15  q x1 h) → FJ X Y ad 50 SM h 15 [(0, .ref (ad 0)), (1, .int x1)] [] := by
  intro q
  induction q with
  | zero =>
    intro x1 h hP hR
    exact absurd hP id
  | succ q ih =>
    intro x1 h hP hR
    unfold PX12_findAhead_15 at hP
    unfold FX12_findAhead_15 at hR
    refine j_iload_n C dX12_findAhead_15 rfl rfl ?_
    refine j_aload_n C dX12_findAhead_16 rfl rfl ?_
    refine gM_304 (v := (h 0 38)) C dX12_findAhead_17 rfl ?_
    refine j_icmp_gt (tgt := 166) C dX12_findAhead_20 (by decide) (fun c0 => ?_) (fun c0 => ?_)
    · have hP := hP.1 c0
      rw [if_pos c0] at hR
      exact hR _ _ dX12_findAhead_166
    · have hP := hP.2 c0
      rw [if_neg c0] at hR
      refine j_iconst (v := 1) C dX12_findAhead_23 (by decide) ?_
      refine j_istore_n C dX12_findAhead_24 rfl (by decide) rfl ?_
      exact j_vl (tX12_findAhead_25 C (FX12_findAhead_15  q) (PX12_findAhead_15  q) (ih) 2000 x1 1 h hP hR) ⟨rfl, rfl, rfl, trivial⟩
def FX12_findAhead (h : ph_H) : ph_H := if (h 0 64) = 0 then (FX12_findAhead_15 2000 1 (hs h 0 64 1)) else (h)
def PX12_findAhead (h : ph_H) : Prop := ((h 0 64) = 0 → (PX12_findAhead_15 2000 1 (hs h 0 64 1))) ∧ (¬ (h 0 64) = 0 → (True))
set_option maxRecDepth 100000 in
set_option maxHeartbeats 4000000 in
theorem tX12_findAhead {X : fj_X} {Y : fj_Y} {l0 : Launch} {ad : Nat → Nat} (C : FC X Y l0 cX12_findAhead 4 RX12 ({ frames := 2, cells := 0, slots := 0, locals := 49 } : Room) 0 0 none) (h : ph_H) (hP : PX12_findAhead h) (hR : RETv X Y ad 50 SM cX12_findAhead (FX12_findAhead h)) : FJ X Y ad 50 SM h 0 [(0, .ref (ad 0))] [] := by
  unfold PX12_findAhead at hP
  unfold FX12_findAhead at hR
  refine j_aload_n C dX12_findAhead_0 rfl rfl ?_
  refine gM_288 (v := (h 0 64)) C dX12_findAhead_1 rfl ?_
  refine j_if_eq (tgt := 8) C dX12_findAhead_4 (by decide) (fun c0 => ?_) (fun c0 => ?_)
  · have hP := hP.1 c0
    rw [if_pos c0] at hR
    refine j_aload_n C dX12_findAhead_8 rfl rfl ?_
    refine j_iconst (v := 1) C dX12_findAhead_9 (by decide) ?_
    refine pM_288 C dX12_findAhead_10 bo_1 ?_
    refine j_iconst (v := 1) C dX12_findAhead_13 (by decide) ?_
    refine j_istore_n C dX12_findAhead_14 rfl (by decide) rfl ?_
    exact j_vl (tX12_findAhead_15 C 2000 1 (hs h 0 64 1) hP hR) ⟨rfl, rfl, trivial⟩
  · have hP := hP.2 c0
    rw [if_neg c0] at hR
    exact hR _ _ dX12_findAhead_7
theorem MX12_findAhead {l0 : Launch} {Y : fj_Y} {ad : Nat → Nat} (h : ph_H) (hP : PX12_findAhead h) : MV l0 yX12_findAhead cX12_findAhead 4 ({ frames := 2, cells := 0, slots := 0, locals := 49 } : Room) Y ad 50 SM h [.ref (ad 0)] (fun S' h' => S' = SM ∧ h' = FX12_findAhead h) := met_v (by decide) (Nat.le_of_ble_eq_true rfl) (fun X C K => j_vl (tX12_findAhead C h hP (fun pc lv hd => K _ _ ⟨rfl, rfl⟩ pc lv hd)) ⟨rfl, trivial⟩)
end MG_08_m06
section MG_08_m07
-- X12_ahead
def FX12_ahead_48  (x1 : Int32) (x2 : Int32) (h : ph_H) : Int32 × ph_H := if (h 39 (((301 * x1) + x2).toNatClampNeg)) = 0 then ((0, h)) else ((1, h))
def PX12_ahead_48  (x1 : Int32) (x2 : Int32) (h : ph_H) : Prop := vp_in ((301 * x1) + x2) 90601 ∧ (((h 39 (((301 * x1) + x2).toNatClampNeg)) = 0 → (True)) ∧ (¬ (h 39 (((301 * x1) + x2).toNatClampNeg)) = 0 → (True)))
set_option maxRecDepth 100000 in
set_option maxHeartbeats 4000000 in
theorem tX12_ahead_48 {X : fj_X} {Y : fj_Y} {l0 : Launch} {ad : Nat → Nat} (C : FC X Y l0 cX12_ahead 3 RX12 ({ frames := 3, cells := 0, slots := 0, locals := 72 } : Room) 0 0 (some .int)) (x1 : Int32) (x2 : Int32) (h : ph_H) (hP : PX12_ahead_48  x1 x2 h) (hR : RETi X Y ad 50 SM cX12_ahead (FX12_ahead_48  x1 x2 h)) : FJ X Y ad 50 SM h 48 [(0, .ref (ad 0)), (1, .int x1), (2, .int x2)] [] := by
  unfold PX12_ahead_48 at hP
  unfold FX12_ahead_48 at hR
  refine j_aload_n C dX12_ahead_48 rfl rfl ?_
  refine gM_127 C dX12_ahead_49 ?_
  refine j_sipush (v := 301) C dX12_ahead_52 (by decide) ?_
  refine j_iload_n C dX12_ahead_55 rfl rfl ?_
  refine j_imul C dX12_ahead_56 ?_
  refine j_iload_n C dX12_ahead_57 rfl rfl ?_
  refine j_iadd C dX12_ahead_58 ?_
  obtain ⟨p7, hP⟩ := hP
  refine j_zald (k := 39) (v := (h 39 (((301 * x1) + x2).toNatClampNeg))) C dX12_ahead_59 (by decide) rfl p7 rfl ?_
  refine j_if_eq (tgt := 67) C dX12_ahead_60 (by decide) (fun c0 => ?_) (fun c0 => ?_)
  · have hP := hP.1 c0
    rw [if_pos c0] at hR
    refine j_iconst (v := 0) C dX12_ahead_67 (by decide) ?_
    exact hR _ _ dX12_ahead_68
  · have hP := hP.2 c0
    rw [if_neg c0] at hR
    refine j_iconst (v := 1) C dX12_ahead_63 (by decide) ?_
    refine j_goto (tgt := 68) C dX12_ahead_64 (by decide) ?_
    exact hR _ _ dX12_ahead_68
def FX12_ahead (a0 : Int32) (a1 : Int32) (h : ph_H) : Int32 × ph_H := if (h 0 36) = 0 then (((-2), (hs h 0 0 0))) else (if (FX12_isIn a1.toInt64 1 ((h 0 38).toInt64)) = 0 then (((-1), (hs h 0 0 0))) else (if (FX12_isIn a0.toInt64 1 ((a1 - 1).toInt64)) = 0 then (((-1), (hs h 0 0 0))) else (FX12_ahead_48  a0 a1 (FX12_findAhead (hs h 0 0 0)))))
def PX12_ahead (a0 : Int32) (a1 : Int32) (h : ph_H) : Prop := ((h 0 36) = 0 → (True)) ∧ (¬ (h 0 36) = 0 → ((PX12_isIn a1.toInt64 1 ((h 0 38).toInt64)) ∧ (((FX12_isIn a1.toInt64 1 ((h 0 38).toInt64)) = 0 → (True)) ∧ (¬ (FX12_isIn a1.toInt64 1 ((h 0 38).toInt64)) = 0 → ((PX12_isIn a0.toInt64 1 ((a1 - 1).toInt64)) ∧ (((FX12_isIn a0.toInt64 1 ((a1 - 1).toInt64)) = 0 → (True)) ∧ (¬ (FX12_isIn a0.toInt64 1 ((a1 - 1).toInt64)) = 0 → ((PX12_findAhead (hs h 0 0 0)) ∧ (PX12_ahead_48  a0 a1 (FX12_findAhead (hs h 0 0 0)))))))))))
set_option maxRecDepth 100000 in
set_option maxHeartbeats 4000000 in
theorem tX12_ahead {X : fj_X} {Y : fj_Y} {l0 : Launch} {ad : Nat → Nat} (C : FC X Y l0 cX12_ahead 3 RX12 ({ frames := 3, cells := 0, slots := 0, locals := 72 } : Room) 0 0 (some .int)) (a0 : Int32) (a1 : Int32) (h : ph_H) (hP : PX12_ahead a0 a1 h) (hR : RETi X Y ad 50 SM cX12_ahead (FX12_ahead a0 a1 h)) : FJ X Y ad 50 SM h 0 [(0, .ref (ad 0)), (1, .int a0), (2, .int a1)] [] := by
  unfold PX12_ahead at hP
  unfold FX12_ahead at hR
  refine j_aload_n C dX12_ahead_0 rfl rfl ?_
  refine j_iconst (v := 0) C dX12_ahead_1 (by decide) ?_
  refine pM_164 C dX12_ahead_2 ?_
  refine j_aload_n C dX12_ahead_5 rfl rfl ?_
  refine gM_294 (v := (h 0 36)) C dX12_ahead_6 (hz_i (by decide)) ?_
  refine j_if_ne (tgt := 15) C dX12_ahead_9 (by decide) (fun c0 => ?_) (fun c0 => ?_)
  · have hP := hP.2 c0
    rw [if_neg c0] at hR
    refine j_iload_n C dX12_ahead_15 rfl rfl ?_
    refine j_i2l C dX12_ahead_16 ?_
    refine j_lconst (v := 1) C dX12_ahead_17 (by decide) ?_
    refine j_aload_n C dX12_ahead_18 rfl rfl ?_
    refine gM_304 (v := (h 0 38)) C dX12_ahead_19 (hz_i (by decide)) ?_
    refine j_i2l C dX12_ahead_22 ?_
    obtain ⟨p6, hP⟩ := hP
    refine j_callS C (MX12_isIn a1.toInt64 1 ((h 0 38).toInt64) (hs h 0 0 0) p6) dX12_ahead_23 (CKX12_isIn (by decide)) ⟨rfl, rfl⟩ lk_RX12_169 st_X12_isIn rfl (Nat.le_of_ble_eq_true rfl) ?_
    intro r S' h' hq
    obtain ⟨rfl, hh, rfl, hb8⟩ := hq
    rw [hh]
    refine j_if_eq (tgt := 42) C dX12_ahead_26 (by decide) (fun c1 => ?_) (fun c1 => ?_)
    · have hP := hP.1 c1
      rw [if_pos c1] at hR
      refine j_iconst (v := (-1)) C dX12_ahead_42 (by decide) ?_
      exact hR _ _ dX12_ahead_43
    · have hP := hP.2 c1
      rw [if_neg c1] at hR
      refine j_iload_n C dX12_ahead_29 rfl rfl ?_
      refine j_i2l C dX12_ahead_30 ?_
      refine j_lconst (v := 1) C dX12_ahead_31 (by decide) ?_
      refine j_iload_n C dX12_ahead_32 rfl rfl ?_
      refine j_iconst (v := 1) C dX12_ahead_33 (by decide) ?_
      refine j_isub C dX12_ahead_34 ?_
      refine j_i2l C dX12_ahead_35 ?_
      obtain ⟨p7, hP⟩ := hP
      refine j_callS C (MX12_isIn a0.toInt64 1 ((a1 - 1).toInt64) (hs h 0 0 0) p7) dX12_ahead_36 (CKX12_isIn (by decide)) ⟨rfl, rfl⟩ lk_RX12_169 st_X12_isIn rfl (Nat.le_of_ble_eq_true rfl) ?_
      intro r S' h' hq
      obtain ⟨rfl, hh, rfl, hb9⟩ := hq
      rw [hh]
      refine j_if_ne (tgt := 44) C dX12_ahead_39 (by decide) (fun c2 => ?_) (fun c2 => ?_)
      · have hP := hP.2 c2
        rw [if_neg c2] at hR
        refine j_aload_n C dX12_ahead_44 rfl rfl ?_
        obtain ⟨p1, hP⟩ := hP
        refine j_callVv C (MX12_findAhead (hs h 0 0 0) p1) dX12_ahead_45 (CKX12_findAhead (by decide)) ⟨rfl, rfl⟩ lk_RX12_334 in_X12_findAhead se_X12_findAhead (by decide) rfl rfl rfl (Nat.le_of_ble_eq_true rfl) ?_
        intro S' h' hq
        obtain ⟨rfl, rfl⟩ := hq
        exact j_vl (tX12_ahead_48 C  a0 a1 (FX12_findAhead (hs h 0 0 0)) hP hR) ⟨rfl, rfl, rfl, trivial⟩
      · have hP := hP.1 c2
        rw [if_pos c2] at hR
        refine j_iconst (v := (-1)) C dX12_ahead_42 (by decide) ?_
        exact hR _ _ dX12_ahead_43
  · have hP := hP.1 c0
    rw [if_pos c0] at hR
    refine j_bipush (v := (-2)) C dX12_ahead_12 (by decide) ?_
    exact hR _ _ dX12_ahead_14
theorem MX12_ahead {l0 : Launch} {Y : fj_Y} {ad : Nat → Nat} (a0 : Int32) (a1 : Int32) (h : ph_H) (hP : PX12_ahead a0 a1 h) : MI l0 yX12_ahead cX12_ahead 3 (some .int) ({ frames := 3, cells := 0, slots := 0, locals := 72 } : Room) Y ad 50 SM h [.ref (ad 0), .int a0, .int a1] (fun r S' h' => S' = SM ∧ h' = (FX12_ahead a0 a1 h).2 ∧ r = (FX12_ahead a0 a1 h).1) := met_i (by decide) (Nat.le_of_ble_eq_true rfl) (fun _ _ _ _ => rfl) (fun X C K => j_vl (tX12_ahead C a0 a1 h hP (fun pc lv hd => K _ _ _ ⟨rfl, rfl, rfl⟩ pc lv hd)) ⟨rfl, rfl, rfl, trivial⟩)

-- X12_racing
def FX12_racing_111  (x3 : Int32) (h : ph_H) : Int32 := x3
def PX12_racing_111  (x3 : Int32) (h : ph_H) : Prop := True
set_option maxRecDepth 100000 in
set_option maxHeartbeats 4000000 in
theorem tX12_racing_111 {X : fj_X} {Y : fj_Y} {l0 : Launch} {ad : Nat → Nat} (C : FC X Y l0 cX12_racing 5 RX12 ({ frames := 0, cells := 0, slots := 0, locals := 0 } : Room) 0 0 (some .int)) (h : ph_H) (x3 : Int32) (hP : PX12_racing_111  x3 h) (hR : RETp X Y ad 50 SM h cX12_racing (FX12_racing_111  x3 h)) : FJ X Y ad 50 SM h 111 [(3, .int x3)] [] := by
  unfold PX12_racing_111 at hP
  unfold FX12_racing_111 at hR
  refine j_iload_n C dX12_racing_111 rfl rfl ?_
  refine j_goto (tgt := 116) C dX12_racing_112 (by decide) ?_
  exact hR _ _ dX12_racing_116
def FX12_racing_80  (x2 : Int32) (x3 : Int32) (s0 : Int32) (h : ph_H) : Int32 := if x3 < 0 then ((-1)) else (if s0 = 0 then ((-1)) else (if (h 33 (x2.toNatClampNeg)) = x3 then (FX12_racing_111  x3 h) else (if (h 32 (x2.toNatClampNeg)) = x3 then (FX12_racing_111  x3 h) else ((-1)))))
def PX12_racing_80  (x2 : Int32) (x3 : Int32) (s0 : Int32) (h : ph_H) : Prop := (x3 < 0 → (True)) ∧ (¬ x3 < 0 → ((s0 = 0 → (True)) ∧ (¬ s0 = 0 → (vp_in x2 301 ∧ (((h 33 (x2.toNatClampNeg)) = x3 → (PX12_racing_111  x3 h)) ∧ (¬ (h 33 (x2.toNatClampNeg)) = x3 → (vp_in x2 301 ∧ (((h 32 (x2.toNatClampNeg)) = x3 → (PX12_racing_111  x3 h)) ∧ (¬ (h 32 (x2.toNatClampNeg)) = x3 → (True))))))))))
set_option maxRecDepth 100000 in
set_option maxHeartbeats 4000000 in
theorem tX12_racing_80 {X : fj_X} {Y : fj_Y} {l0 : Launch} {ad : Nat → Nat} (C : FC X Y l0 cX12_racing 5 RX12 ({ frames := 0, cells := 0, slots := 0, locals := 0 } : Room) 0 0 (some .int)) (h : ph_H) (x2 : Int32) (x3 : Int32) (s0 : Int32) (hP : PX12_racing_80  x2 x3 s0 h) (hR : RETp X Y ad 50 SM h cX12_racing (FX12_racing_80  x2 x3 s0 h)) : FJ X Y ad 50 SM h 80 [(0, .ref (ad 0)), (2, .int x2), (3, .int x3)] [.int s0] := by
  unfold PX12_racing_80 at hP
  unfold FX12_racing_80 at hR
  refine j_istore C dX12_racing_80 (by decide) rfl ?_
  refine j_iload_n C dX12_racing_82 rfl rfl ?_
  refine j_if_lt (tgt := 115) C dX12_racing_83 (by decide) (fun c0 => ?_) (fun c0 => ?_)
  · have hP := hP.1 c0
    rw [if_pos c0] at hR
    refine j_iconst (v := (-1)) C dX12_racing_115 (by decide) ?_
    exact hR _ _ dX12_racing_116
  · have hP := hP.2 c0
    rw [if_neg c0] at hR
    refine j_iload C dX12_racing_86 rfl ?_
    refine j_if_eq (tgt := 115) C dX12_racing_88 (by decide) (fun c1 => ?_) (fun c1 => ?_)
    · have hP := hP.1 c1
      rw [if_pos c1] at hR
      refine j_iconst (v := (-1)) C dX12_racing_115 (by decide) ?_
      exact hR _ _ dX12_racing_116
    · have hP := hP.2 c1
      rw [if_neg c1] at hR
      refine j_aload_n C dX12_racing_91 rfl rfl ?_
      refine gM_108 C dX12_racing_92 ?_
      refine j_iload_n C dX12_racing_95 rfl rfl ?_
      obtain ⟨p3, hP⟩ := hP
      refine j_iald (k := 33) (v := (h 33 (x2.toNatClampNeg))) C dX12_racing_96 (by decide) rfl p3 rfl ?_
      refine j_iload_n C dX12_racing_97 rfl rfl ?_
      refine j_icmp_eq (tgt := 111) C dX12_racing_98 (by decide) (fun c2 => ?_) (fun c2 => ?_)
      · have hP := hP.1 c2
        rw [if_pos c2] at hR
        exact j_vl (tX12_racing_111 C h x3 hP hR) ⟨rfl, trivial⟩
      · have hP := hP.2 c2
        rw [if_neg c2] at hR
        refine j_aload_n C dX12_racing_101 rfl rfl ?_
        refine gM_105 C dX12_racing_102 ?_
        refine j_iload_n C dX12_racing_105 rfl rfl ?_
        obtain ⟨p3, hP⟩ := hP
        refine j_iald (k := 32) (v := (h 32 (x2.toNatClampNeg))) C dX12_racing_106 (by decide) rfl p3 rfl ?_
        refine j_iload_n C dX12_racing_107 rfl rfl ?_
        refine j_icmp_ne (tgt := 115) C dX12_racing_108 (by decide) (fun c3 => ?_) (fun c3 => ?_)
        · have hP := hP.2 c3
          rw [if_neg c3] at hR
          refine j_iconst (v := (-1)) C dX12_racing_115 (by decide) ?_
          exact hR _ _ dX12_racing_116
        · have hP := hP.1 c3
          rw [if_pos c3] at hR
          exact j_vl (tX12_racing_111 C h x3 hP hR) ⟨rfl, trivial⟩
def FX12_racing_75  (x2 : Int32) (x3 : Int32) (h : ph_H) : Int32 := FX12_racing_80  x2 x3 1 h
def PX12_racing_75  (x2 : Int32) (x3 : Int32) (h : ph_H) : Prop := PX12_racing_80  x2 x3 1 h
set_option maxRecDepth 100000 in
set_option maxHeartbeats 4000000 in
theorem tX12_racing_75 {X : fj_X} {Y : fj_Y} {l0 : Launch} {ad : Nat → Nat} (C : FC X Y l0 cX12_racing 5 RX12 ({ frames := 0, cells := 0, slots := 0, locals := 0 } : Room) 0 0 (some .int)) (h : ph_H) (x2 : Int32) (x3 : Int32) (hP : PX12_racing_75  x2 x3 h) (hR : RETp X Y ad 50 SM h cX12_racing (FX12_racing_75  x2 x3 h)) : FJ X Y ad 50 SM h 75 [(0, .ref (ad 0)), (2, .int x2), (3, .int x3)] [] := by
  unfold PX12_racing_75 at hP
  unfold FX12_racing_75 at hR
  refine j_iconst (v := 1) C dX12_racing_75 (by decide) ?_
  refine j_goto (tgt := 80) C dX12_racing_76 (by decide) ?_
  exact j_vl (tX12_racing_80 C h x2 x3 1 hP hR) ⟨rfl, rfl, rfl, trivial⟩
def FX12_racing_56  (x1 : Int32) (x2 : Int32) (s0 : Int32) (h : ph_H) : Int32 := if 0 ≤ (h 33 (x1.toNatClampNeg)) then (FX12_racing_75  x2 s0 h) else (if (h 33 (x2.toNatClampNeg)) < 0 then (FX12_racing_80  x2 s0 0 h) else (FX12_racing_75  x2 s0 h))
def PX12_racing_56  (x1 : Int32) (x2 : Int32) (s0 : Int32) (h : ph_H) : Prop := vp_in x1 301 ∧ ((0 ≤ (h 33 (x1.toNatClampNeg)) → (PX12_racing_75  x2 s0 h)) ∧ (¬ 0 ≤ (h 33 (x1.toNatClampNeg)) → (vp_in x2 301 ∧ (((h 33 (x2.toNatClampNeg)) < 0 → (PX12_racing_80  x2 s0 0 h)) ∧ (¬ (h 33 (x2.toNatClampNeg)) < 0 → (PX12_racing_75  x2 s0 h))))))
set_option maxRecDepth 100000 in
set_option maxHeartbeats 4000000 in
theorem tX12_racing_56 {X : fj_X} {Y : fj_Y} {l0 : Launch} {ad : Nat → Nat} (C : FC X Y l0 cX12_racing 5 RX12 ({ frames := 0, cells := 0, slots := 0, locals := 0 } : Room) 0 0 (some .int)) (h : ph_H) (x1 : Int32) (x2 : Int32) (s0 : Int32) (hP : PX12_racing_56  x1 x2 s0 h) (hR : RETp X Y ad 50 SM h cX12_racing (FX12_racing_56  x1 x2 s0 h)) : FJ X Y ad 50 SM h 56 [(0, .ref (ad 0)), (1, .int x1), (2, .int x2)] [.int s0] := by
  unfold PX12_racing_56 at hP
  unfold FX12_racing_56 at hR
  refine j_istore_n C dX12_racing_56 rfl (by decide) rfl ?_
  refine j_aload_n C dX12_racing_57 rfl rfl ?_
  refine gM_108 C dX12_racing_58 ?_
  refine j_iload_n C dX12_racing_61 rfl rfl ?_
  obtain ⟨p4, hP⟩ := hP
  refine j_iald (k := 33) (v := (h 33 (x1.toNatClampNeg))) C dX12_racing_62 (by decide) rfl p4 rfl ?_
  refine j_if_ge (tgt := 75) C dX12_racing_63 (by decide) (fun c0 => ?_) (fun c0 => ?_)
  · have hP := hP.1 c0
    rw [if_pos c0] at hR
    exact j_vl (tX12_racing_75 C h x2 s0 hP hR) ⟨rfl, rfl, rfl, trivial⟩
  · have hP := hP.2 c0
    rw [if_neg c0] at hR
    refine j_aload_n C dX12_racing_66 rfl rfl ?_
    refine gM_108 C dX12_racing_67 ?_
    refine j_iload_n C dX12_racing_70 rfl rfl ?_
    obtain ⟨p3, hP⟩ := hP
    refine j_iald (k := 33) (v := (h 33 (x2.toNatClampNeg))) C dX12_racing_71 (by decide) rfl p3 rfl ?_
    refine j_if_lt (tgt := 79) C dX12_racing_72 (by decide) (fun c1 => ?_) (fun c1 => ?_)
    · have hP := hP.1 c1
      rw [if_pos c1] at hR
      refine j_iconst (v := 0) C dX12_racing_79 (by decide) ?_
      exact j_vl (tX12_racing_80 C h x2 s0 0 hP hR) ⟨rfl, rfl, rfl, trivial⟩
    · have hP := hP.2 c1
      rw [if_neg c1] at hR
      exact j_vl (tX12_racing_75 C h x2 s0 hP hR) ⟨rfl, rfl, rfl, trivial⟩
def FX12_racing (a0 : Int32) (a1 : Int32) (h : ph_H) : Int32 := if (h 29 (a0.toNatClampNeg)) = (h 29 (a1.toNatClampNeg)) then ((-1)) else (if (h 39 (((301 * a0) + a1).toNatClampNeg)) = 0 then (if (h 33 (a0.toNatClampNeg)) < 0 then (FX12_racing_56  a0 a1 (h 32 (a0.toNatClampNeg)) h) else (FX12_racing_56  a0 a1 (h 33 (a0.toNatClampNeg)) h)) else ((-1)))
def PX12_racing (a0 : Int32) (a1 : Int32) (h : ph_H) : Prop := vp_in a0 301 ∧ (vp_in a1 301 ∧ (((h 29 (a0.toNatClampNeg)) = (h 29 (a1.toNatClampNeg)) → (True)) ∧ (¬ (h 29 (a0.toNatClampNeg)) = (h 29 (a1.toNatClampNeg)) → (vp_in ((301 * a0) + a1) 90601 ∧ (((h 39 (((301 * a0) + a1).toNatClampNeg)) = 0 → (vp_in a0 301 ∧ (((h 33 (a0.toNatClampNeg)) < 0 → (vp_in a0 301 ∧ (PX12_racing_56  a0 a1 (h 32 (a0.toNatClampNeg)) h))) ∧ (¬ (h 33 (a0.toNatClampNeg)) < 0 → (vp_in a0 301 ∧ (PX12_racing_56  a0 a1 (h 33 (a0.toNatClampNeg)) h)))))) ∧ (¬ (h 39 (((301 * a0) + a1).toNatClampNeg)) = 0 → (True)))))))
set_option maxRecDepth 100000 in
set_option maxHeartbeats 4000000 in
theorem tX12_racing {X : fj_X} {Y : fj_Y} {l0 : Launch} {ad : Nat → Nat} (C : FC X Y l0 cX12_racing 5 RX12 ({ frames := 0, cells := 0, slots := 0, locals := 0 } : Room) 0 0 (some .int)) (a0 : Int32) (a1 : Int32) (h : ph_H) (hP : PX12_racing a0 a1 h) (hR : RETp X Y ad 50 SM h cX12_racing (FX12_racing a0 a1 h)) : FJ X Y ad 50 SM h 0 [(0, .ref (ad 0)), (1, .int a0), (2, .int a1)] [] := by
  unfold PX12_racing at hP
  unfold FX12_racing at hR
  refine j_aload_n C dX12_racing_0 rfl rfl ?_
  refine gM_96 C dX12_racing_1 ?_
  refine j_iload_n C dX12_racing_4 rfl rfl ?_
  obtain ⟨p3, hP⟩ := hP
  refine j_iald (k := 29) (v := (h 29 (a0.toNatClampNeg))) C dX12_racing_5 (by decide) rfl p3 rfl ?_
  refine j_aload_n C dX12_racing_6 rfl rfl ?_
  refine gM_96 C dX12_racing_7 ?_
  refine j_iload_n C dX12_racing_10 rfl rfl ?_
  obtain ⟨p8, hP⟩ := hP
  refine j_iald (k := 29) (v := (h 29 (a1.toNatClampNeg))) C dX12_racing_11 (by decide) rfl p8 rfl ?_
  refine j_icmp_eq (tgt := 30) C dX12_racing_12 (by decide) (fun c0 => ?_) (fun c0 => ?_)
  · have hP := hP.1 c0
    rw [if_pos c0] at hR
    refine j_iconst (v := (-1)) C dX12_racing_30 (by decide) ?_
    exact hR _ _ dX12_racing_31
  · have hP := hP.2 c0
    rw [if_neg c0] at hR
    refine j_aload_n C dX12_racing_15 rfl rfl ?_
    refine gM_127 C dX12_racing_16 ?_
    refine j_sipush (v := 301) C dX12_racing_19 (by decide) ?_
    refine j_iload_n C dX12_racing_22 rfl rfl ?_
    refine j_imul C dX12_racing_23 ?_
    refine j_iload_n C dX12_racing_24 rfl rfl ?_
    refine j_iadd C dX12_racing_25 ?_
    obtain ⟨p7, hP⟩ := hP
    refine j_zald (k := 39) (v := (h 39 (((301 * a0) + a1).toNatClampNeg))) C dX12_racing_26 (by decide) rfl p7 rfl ?_
    refine j_if_eq (tgt := 32) C dX12_racing_27 (by decide) (fun c1 => ?_) (fun c1 => ?_)
    · have hP := hP.1 c1
      rw [if_pos c1] at hR
      refine j_aload_n C dX12_racing_32 rfl rfl ?_
      refine gM_108 C dX12_racing_33 ?_
      refine j_iload_n C dX12_racing_36 rfl rfl ?_
      obtain ⟨p3, hP⟩ := hP
      refine j_iald (k := 33) (v := (h 33 (a0.toNatClampNeg))) C dX12_racing_37 (by decide) rfl p3 rfl ?_
      refine j_if_lt (tgt := 50) C dX12_racing_38 (by decide) (fun c2 => ?_) (fun c2 => ?_)
      · have hP := hP.1 c2
        rw [if_pos c2] at hR
        refine j_aload_n C dX12_racing_50 rfl rfl ?_
        refine gM_105 C dX12_racing_51 ?_
        refine j_iload_n C dX12_racing_54 rfl rfl ?_
        obtain ⟨p3, hP⟩ := hP
        refine j_iald (k := 32) (v := (h 32 (a0.toNatClampNeg))) C dX12_racing_55 (by decide) rfl p3 rfl ?_
        exact j_vl (tX12_racing_56 C h a0 a1 (h 32 (a0.toNatClampNeg)) hP hR) ⟨rfl, rfl, rfl, trivial⟩
      · have hP := hP.2 c2
        rw [if_neg c2] at hR
        refine j_aload_n C dX12_racing_41 rfl rfl ?_
        refine gM_108 C dX12_racing_42 ?_
        refine j_iload_n C dX12_racing_45 rfl rfl ?_
        obtain ⟨p3, hP⟩ := hP
        refine j_iald (k := 33) (v := (h 33 (a0.toNatClampNeg))) C dX12_racing_46 (by decide) rfl p3 rfl ?_
        refine j_goto (tgt := 56) C dX12_racing_47 (by decide) ?_
        exact j_vl (tX12_racing_56 C h a0 a1 (h 33 (a0.toNatClampNeg)) hP hR) ⟨rfl, rfl, rfl, trivial⟩
    · have hP := hP.2 c1
      rw [if_neg c1] at hR
      refine j_iconst (v := (-1)) C dX12_racing_30 (by decide) ?_
      exact hR _ _ dX12_racing_31
theorem MX12_racing {l0 : Launch} {Y : fj_Y} {ad : Nat → Nat} (a0 : Int32) (a1 : Int32) (h : ph_H) (hP : PX12_racing a0 a1 h) : MI l0 yX12_racing cX12_racing 5 (some .int) ({ frames := 0, cells := 0, slots := 0, locals := 0 } : Room) Y ad 50 SM h [.ref (ad 0), .int a0, .int a1] (fun r S' h' => S' = SM ∧ h' = h ∧ r = FX12_racing a0 a1 h) := met_i (by decide) (Nat.le_of_ble_eq_true rfl) (fun _ _ _ _ => rfl) (fun X C K => j_vl (tX12_racing C a0 a1 h hP (fun pc lv hd => K _ _ _ ⟨rfl, rfl, rfl⟩ pc lv hd)) ⟨rfl, rfl, rfl, trivial⟩)

-- X12_race
def FX12_race_115 (L38 : Int32 → Int32 → Int32 → Int32 → ph_H → Int32 × ph_H) (L50 : Int32 → Int32 → Int32 → Int32 → Int32 → ph_H → Int32 × ph_H) (x1 : Int32) (x2 : Int32) (x4 : Int32) (x5 : Int32) (s0 : Int32) (s1 : Int32) (h : ph_H) : Int32 × ph_H := L50 x1 x2 (s1 + s0) x4 (x5 + 1) h
def PX12_race_115 (LP38 : Int32 → Int32 → Int32 → Int32 → ph_H → Prop) (LP50 : Int32 → Int32 → Int32 → Int32 → Int32 → ph_H → Prop) (x1 : Int32) (x2 : Int32) (x4 : Int32) (x5 : Int32) (s0 : Int32) (s1 : Int32) (h : ph_H) : Prop := LP50 x1 x2 (s1 + s0) x4 (x5 + 1) h
set_option maxRecDepth 100000 in
set_option maxHeartbeats 4000000 in
theorem tX12_race_115 {X : fj_X} {Y : fj_Y} {l0 : Launch} {ad : Nat → Nat} (C : FC X Y l0 cX12_race 7 RX12 ({ frames := 3, cells := 0, slots := 0, locals := 72 } : Room) 0 0 (some .int)) (L38 : Int32 → Int32 → Int32 → Int32 → ph_H → Int32 × ph_H) (LP38 : Int32 → Int32 → Int32 → Int32 → ph_H → Prop) (hL38 : ∀ (x1 : Int32) (x2 : Int32) (x3 : Int32) (x4 : Int32) (h : ph_H), LP38 x1 x2 x3 x4 h → RETi X Y ad 50 SM cX12_race (L38 x1 x2 x3 x4 h) → FJ X Y ad 50 SM h 38 [(0, .ref (ad 0)), (1, .int x1), (2, .int x2), (3, .int x3), (4, .int x4)] []) (L50 : Int32 → Int32 → Int32 → Int32 → Int32 → ph_H → Int32 × ph_H) (LP50 : Int32 → Int32 → Int32 → Int32 → Int32 → ph_H → Prop) (hL50 : ∀ (x1 : Int32) (x2 : Int32) (x3 : Int32) (x4 : Int32) (x5 : Int32) (h : ph_H), LP50 x1 x2 x3 x4 x5 h → RETi X Y ad 50 SM cX12_race (L50 x1 x2 x3 x4 x5 h) → FJ X Y ad 50 SM h 50 [(0, .ref (ad 0)), (1, .int x1), (2, .int x2), (3, .int x3), (4, .int x4), (5, .int x5)] []) (x1 : Int32) (x2 : Int32) (x4 : Int32) (x5 : Int32) (s0 : Int32) (s1 : Int32) (h : ph_H) (hP : PX12_race_115 LP38 LP50 x1 x2 x4 x5 s0 s1 h) (hR : RETi X Y ad 50 SM cX12_race (FX12_race_115 L38 L50 x1 x2 x4 x5 s0 s1 h)) : FJ X Y ad 50 SM h 115 [(0, .ref (ad 0)), (1, .int x1), (2, .int x2), (4, .int x4), (5, .int x5)] [.int s0, .int s1] := by
  unfold PX12_race_115 at hP
  unfold FX12_race_115 at hR
  refine j_iadd C dX12_race_115 ?_
  refine j_istore_n C dX12_race_116 rfl (by decide) rfl ?_
  refine j_iinc (v := (x5 + 1)) C dX12_race_117 rfl rfl (by decide) rfl ?_
  refine j_goto (tgt := 50) C dX12_race_120 (by decide) ?_
  exact j_vl (hL50 x1 x2 (s1 + s0) x4 (x5 + 1) h hP hR) ⟨rfl, rfl, rfl, rfl, rfl, rfl, trivial⟩
def FX12_race_104 (L38 : Int32 → Int32 → Int32 → Int32 → ph_H → Int32 × ph_H) (L50 : Int32 → Int32 → Int32 → Int32 → Int32 → ph_H → Int32 × ph_H) (x1 : Int32) (x2 : Int32) (x3 : Int32) (x4 : Int32) (x5 : Int32) (x6 : Int32) (h : ph_H) : Int32 × ph_H := if x6 < 0 then (FX12_race_115 L38 L50 x1 x2 x4 x5 0 x3 h) else (FX12_race_115 L38 L50 x1 x2 x4 x5 1 x3 h)
def PX12_race_104 (LP38 : Int32 → Int32 → Int32 → Int32 → ph_H → Prop) (LP50 : Int32 → Int32 → Int32 → Int32 → Int32 → ph_H → Prop) (x1 : Int32) (x2 : Int32) (x3 : Int32) (x4 : Int32) (x5 : Int32) (x6 : Int32) (h : ph_H) : Prop := (x6 < 0 → (PX12_race_115 LP38 LP50 x1 x2 x4 x5 0 x3 h)) ∧ (¬ x6 < 0 → (PX12_race_115 LP38 LP50 x1 x2 x4 x5 1 x3 h))
set_option maxRecDepth 100000 in
set_option maxHeartbeats 4000000 in
theorem tX12_race_104 {X : fj_X} {Y : fj_Y} {l0 : Launch} {ad : Nat → Nat} (C : FC X Y l0 cX12_race 7 RX12 ({ frames := 3, cells := 0, slots := 0, locals := 72 } : Room) 0 0 (some .int)) (L38 : Int32 → Int32 → Int32 → Int32 → ph_H → Int32 × ph_H) (LP38 : Int32 → Int32 → Int32 → Int32 → ph_H → Prop) (hL38 : ∀ (x1 : Int32) (x2 : Int32) (x3 : Int32) (x4 : Int32) (h : ph_H), LP38 x1 x2 x3 x4 h → RETi X Y ad 50 SM cX12_race (L38 x1 x2 x3 x4 h) → FJ X Y ad 50 SM h 38 [(0, .ref (ad 0)), (1, .int x1), (2, .int x2), (3, .int x3), (4, .int x4)] []) (L50 : Int32 → Int32 → Int32 → Int32 → Int32 → ph_H → Int32 × ph_H) (LP50 : Int32 → Int32 → Int32 → Int32 → Int32 → ph_H → Prop) (hL50 : ∀ (x1 : Int32) (x2 : Int32) (x3 : Int32) (x4 : Int32) (x5 : Int32) (h : ph_H), LP50 x1 x2 x3 x4 x5 h → RETi X Y ad 50 SM cX12_race (L50 x1 x2 x3 x4 x5 h) → FJ X Y ad 50 SM h 50 [(0, .ref (ad 0)), (1, .int x1), (2, .int x2), (3, .int x3), (4, .int x4), (5, .int x5)] []) (x1 : Int32) (x2 : Int32) (x3 : Int32) (x4 : Int32) (x5 : Int32) (x6 : Int32) (h : ph_H) (hP : PX12_race_104 LP38 LP50 x1 x2 x3 x4 x5 x6 h) (hR : RETi X Y ad 50 SM cX12_race (FX12_race_104 L38 L50 x1 x2 x3 x4 x5 x6 h)) : FJ X Y ad 50 SM h 104 [(0, .ref (ad 0)), (1, .int x1), (2, .int x2), (3, .int x3), (4, .int x4), (5, .int x5), (6, .int x6)] [] := by
  unfold PX12_race_104 at hP
  unfold FX12_race_104 at hR
  refine j_iload_n C dX12_race_104 rfl rfl ?_
  refine j_iload C dX12_race_105 rfl ?_
  refine j_if_lt (tgt := 114) C dX12_race_107 (by decide) (fun c0 => ?_) (fun c0 => ?_)
  · have hP := hP.1 c0
    rw [if_pos c0] at hR
    refine j_iconst (v := 0) C dX12_race_114 (by decide) ?_
    exact j_vl (tX12_race_115 C L38 LP38 hL38 L50 LP50 hL50 x1 x2 x4 x5 0 x3 h hP hR) ⟨rfl, rfl, rfl, rfl, rfl, trivial⟩
  · have hP := hP.2 c0
    rw [if_neg c0] at hR
    refine j_iconst (v := 1) C dX12_race_110 (by decide) ?_
    refine j_goto (tgt := 115) C dX12_race_111 (by decide) ?_
    exact j_vl (tX12_race_115 C L38 LP38 hL38 L50 LP50 hL50 x1 x2 x4 x5 1 x3 h hP hR) ⟨rfl, rfl, rfl, rfl, rfl, trivial⟩
def FX12_race_50 (L38 : Int32 → Int32 → Int32 → Int32 → ph_H → Int32 × ph_H) : Nat → Int32 → Int32 → Int32 → Int32 → Int32 → ph_H → Int32 × ph_H
  | 0, _, _, _, _, _, h => (0, h)
  | q + 1, x1, x2, x3, x4, x5, h => if x4 ≤ x5 then (L38 x1 x2 x3 (x4 + 1) h) else (if (FX12_racing x5 x4 h) < 0 then (FX12_race_104 L38 (FX12_race_50 L38 q) x1 x2 x3 x4 x5 (FX12_racing x5 x4 h) h) else (if x3 = x1 then (if x2 ≤ 0 then (FX12_race_104 L38 (FX12_race_50 L38 q) x1 x2 x3 x4 x5 (FX12_racing x5 x4 h) h) else (if x2 = 1 then ((x5, h)) else (if x2 = 2 then ((x4, h)) else (((FX12_racing x5 x4 h), h))))) else (FX12_race_104 L38 (FX12_race_50 L38 q) x1 x2 x3 x4 x5 (FX12_racing x5 x4 h) h)))
def PX12_race_50 (LP38 : Int32 → Int32 → Int32 → Int32 → ph_H → Prop) : Nat → Int32 → Int32 → Int32 → Int32 → Int32 → ph_H → Prop
  | 0, _, _, _, _, _, _ => False
  | q + 1, x1, x2, x3, x4, x5, h => (x4 ≤ x5 → (LP38 x1 x2 x3 (x4 + 1) h)) ∧ (¬ x4 ≤ x5 → ((PX12_racing x5 x4 h) ∧ (((FX12_racing x5 x4 h) < 0 → (PX12_race_104 LP38 (PX12_race_50 LP38 q) x1 x2 x3 x4 x5 (FX12_racing x5 x4 h) h)) ∧ (¬ (FX12_racing x5 x4 h) < 0 → ((x3 = x1 → ((x2 ≤ 0 → (PX12_race_104 LP38 (PX12_race_50 LP38 q) x1 x2 x3 x4 x5 (FX12_racing x5 x4 h) h)) ∧ (¬ x2 ≤ 0 → ((x2 = 1 → (True)) ∧ (¬ x2 = 1 → ((x2 = 2 → (True)) ∧ (¬ x2 = 2 → (True)))))))) ∧ (¬ x3 = x1 → (PX12_race_104 LP38 (PX12_race_50 LP38 q) x1 x2 x3 x4 x5 (FX12_racing x5 x4 h) h)))))))
set_option maxRecDepth 100000 in
set_option maxHeartbeats 4000000 in
theorem tX12_race_50 {X : fj_X} {Y : fj_Y} {l0 : Launch} {ad : Nat → Nat} (C : FC X Y l0 cX12_race 7 RX12 ({ frames := 3, cells := 0, slots := 0, locals := 72 } : Room) 0 0 (some .int)) (L38 : Int32 → Int32 → Int32 → Int32 → ph_H → Int32 × ph_H) (LP38 : Int32 → Int32 → Int32 → Int32 → ph_H → Prop) (hL38 : ∀ (x1 : Int32) (x2 : Int32) (x3 : Int32) (x4 : Int32) (h : ph_H), LP38 x1 x2 x3 x4 h → RETi X Y ad 50 SM cX12_race (L38 x1 x2 x3 x4 h) → FJ X Y ad 50 SM h 38 [(0, .ref (ad 0)), (1, .int x1), (2, .int x2), (3, .int x3), (4, .int x4)] []) : ∀ (q : Nat) (x1 : Int32) (x2 : Int32) (x3 : Int32) (x4 : Int32) (x5 : Int32) (h : ph_H), PX12_race_50 LP38 q x1 x2 x3 x4 x5 h → RETi X Y ad 50 SM cX12_race (FX12_race_50 L38 q x1 x2 x3 x4 x5 h) → FJ X Y ad 50 SM h 50 [(0, .ref (ad 0)), (1, .int x1), (2, .int x2), (3, .int x3), (4, .int x4), (5, .int x5)] [] := by
  intro q
  induction q with
  | zero =>
    intro x1 x2 x3 x4 x5 h hP hR
    exact absurd hP id
  | succ q ih =>
    intro x1 x2 x3 x4 x5 h hP hR
    unfold PX12_race_50 at hP
    unfold FX12_race_50 at hR
    refine j_iload C dX12_race_50 rfl ?_
    refine j_iload C dX12_race_52 rfl ?_
    refine j_icmp_ge (tgt := 123) C dX12_race_54 (by decide) (fun c0 => ?_) (fun c0 => ?_)
    · have hP := hP.1 c0
      rw [if_pos c0] at hR
      refine j_iinc (v := (x4 + 1)) C dX12_race_123 rfl rfl (by decide) rfl ?_
      refine j_goto (tgt := 38) C dX12_race_126 (by decide) ?_
      exact j_vl (hL38 x1 x2 x3 (x4 + 1) h hP hR) ⟨rfl, rfl, rfl, rfl, rfl, trivial⟩
    · have hP := hP.2 c0
      rw [if_neg c0] at hR
      refine j_aload_n C dX12_race_57 rfl rfl ?_
      refine j_iload C dX12_race_58 rfl ?_
      refine j_iload C dX12_race_60 rfl ?_
      obtain ⟨p3, hP⟩ := hP
      refine j_callV C (MX12_racing x5 x4 h p3) dX12_race_62 (CKX12_racing (by decide)) ⟨rfl, rfl⟩ lk_RX12_337 in_X12_racing se_X12_racing (by decide) rfl rfl rfl (Nat.le_of_ble_eq_true rfl) ?_
      intro r S' h' hq
      obtain ⟨rfl, hh, rfl⟩ := hq
      rw [hh]
      refine j_istore C dX12_race_65 (by decide) rfl ?_
      refine j_iload C dX12_race_67 rfl ?_
      refine j_if_lt (tgt := 104) C dX12_race_69 (by decide) (fun c1 => ?_) (fun c1 => ?_)
      · have hP := hP.1 c1
        rw [if_pos c1] at hR
        exact j_vl (tX12_race_104 C L38 LP38 hL38 (FX12_race_50 L38 q) (PX12_race_50 LP38 q) (ih) x1 x2 x3 x4 x5 (FX12_racing x5 x4 h) h hP hR) ⟨rfl, rfl, rfl, rfl, rfl, rfl, rfl, trivial⟩
      · have hP := hP.2 c1
        rw [if_neg c1] at hR
        refine j_iload_n C dX12_race_72 rfl rfl ?_
        refine j_iload_n C dX12_race_73 rfl rfl ?_
        refine j_icmp_ne (tgt := 104) C dX12_race_74 (by decide) (fun c2 => ?_) (fun c2 => ?_)
        · have hP := hP.2 c2
          rw [if_neg c2] at hR
          exact j_vl (tX12_race_104 C L38 LP38 hL38 (FX12_race_50 L38 q) (PX12_race_50 LP38 q) (ih) x1 x2 x3 x4 x5 (FX12_racing x5 x4 h) h hP hR) ⟨rfl, rfl, rfl, rfl, rfl, rfl, rfl, trivial⟩
        · have hP := hP.1 c2
          rw [if_pos c2] at hR
          refine j_iload_n C dX12_race_77 rfl rfl ?_
          refine j_if_le (tgt := 104) C dX12_race_78 (by decide) (fun c3 => ?_) (fun c3 => ?_)
          · have hP := hP.1 c3
            rw [if_pos c3] at hR
            exact j_vl (tX12_race_104 C L38 LP38 hL38 (FX12_race_50 L38 q) (PX12_race_50 LP38 q) (ih) x1 x2 x3 x4 x5 (FX12_racing x5 x4 h) h hP hR) ⟨rfl, rfl, rfl, rfl, rfl, rfl, rfl, trivial⟩
          · have hP := hP.2 c3
            rw [if_neg c3] at hR
            refine j_iload_n C dX12_race_81 rfl rfl ?_
            refine j_iconst (v := 1) C dX12_race_82 (by decide) ?_
            refine j_icmp_ne (tgt := 91) C dX12_race_83 (by decide) (fun c4 => ?_) (fun c4 => ?_)
            · have hP := hP.2 c4
              rw [if_neg c4] at hR
              refine j_iload_n C dX12_race_91 rfl rfl ?_
              refine j_iconst (v := 2) C dX12_race_92 (by decide) ?_
              refine j_icmp_ne (tgt := 101) C dX12_race_93 (by decide) (fun c5 => ?_) (fun c5 => ?_)
              · have hP := hP.2 c5
                rw [if_neg c5] at hR
                refine j_iload C dX12_race_101 rfl ?_
                exact hR _ _ dX12_race_103
              · have hP := hP.1 c5
                rw [if_pos c5] at hR
                refine j_iload C dX12_race_96 rfl ?_
                refine j_goto (tgt := 103) C dX12_race_98 (by decide) ?_
                exact hR _ _ dX12_race_103
            · have hP := hP.1 c4
              rw [if_pos c4] at hR
              refine j_iload C dX12_race_86 rfl ?_
              refine j_goto (tgt := 103) C dX12_race_88 (by decide) ?_
              exact hR _ _ dX12_race_103
def FX12_race_38  : Nat → Int32 → Int32 → Int32 → Int32 → ph_H → Int32 × ph_H
  | 0, _, _, _, _, h => (0, h)
  | q + 1, x1, x2, x3, x4, h => if (h 0 38) < x4 then (if x2 = 0 then ((x3, h)) else (((-1), h))) else (FX12_race_50 (FX12_race_38  q) 2000 x1 x2 x3 x4 1 h)
def PX12_race_38  : Nat → Int32 → Int32 → Int32 → Int32 → ph_H → Prop
  | 0, _, _, _, _, _ => False
  | q + 1, x1, x2, x3, x4, h => ((h 0 38) < x4 → ((x2 = 0 → (True)) ∧ (¬ x2 = 0 → (True)))) ∧ (¬ (h 0 38) < x4 → (PX12_race_50 (PX12_race_38  q) 2000 x1 x2 x3 x4 1 h))
set_option maxRecDepth 100000 in
set_option maxHeartbeats 4000000 in
theorem tX12_race_38 {X : fj_X} {Y : fj_Y} {l0 : Launch} {ad : Nat → Nat} (C : FC X Y l0 cX12_race 7 RX12 ({ frames := 3, cells := 0, slots := 0, locals := 72 } : Room) 0 0 (some .int)) : ∀ (q : Nat) (x1 : Int32) (x2 : Int32) (x3 : Int32) (x4 : Int32) (h : ph_H), PX12_race_38  q x1 x2 x3 x4 h → RETi X Y ad 50 SM cX12_race (FX12_race_38  q x1 x2 x3 x4 h) → FJ X Y ad 50 SM h 38 [(0, .ref (ad 0)), (1, .int x1), (2, .int x2), (3, .int x3), (4, .int x4)] [] := by
  intro q
  induction q with
  | zero =>
    intro x1 x2 x3 x4 h hP hR
    exact absurd hP id
  | succ q ih =>
    intro x1 x2 x3 x4 h hP hR
    unfold PX12_race_38 at hP
    unfold FX12_race_38 at hR
    refine j_iload C dX12_race_38 rfl ?_
    refine j_aload_n C dX12_race_40 rfl rfl ?_
    refine gM_304 (v := (h 0 38)) C dX12_race_41 rfl ?_
    refine j_icmp_gt (tgt := 129) C dX12_race_44 (by decide) (fun c0 => ?_) (fun c0 => ?_)
    · have hP := hP.1 c0
      rw [if_pos c0] at hR
      refine j_iload_n C dX12_race_129 rfl rfl ?_
      refine j_if_ne (tgt := 137) C dX12_race_130 (by decide) (fun c1 => ?_) (fun c1 => ?_)
      · have hP := hP.2 c1
        rw [if_neg c1] at hR
        refine j_iconst (v := (-1)) C dX12_race_137 (by decide) ?_
        exact hR _ _ dX12_race_138
      · have hP := hP.1 c1
        rw [if_pos c1] at hR
        refine j_iload_n C dX12_race_133 rfl rfl ?_
        refine j_goto (tgt := 138) C dX12_race_134 (by decide) ?_
        exact hR _ _ dX12_race_138
    · have hP := hP.2 c0
      rw [if_neg c0] at hR
      refine j_iconst (v := 1) C dX12_race_47 (by decide) ?_
      refine j_istore C dX12_race_48 (by decide) rfl ?_
      exact j_vl (tX12_race_50 C (FX12_race_38  q) (PX12_race_38  q) (ih) 2000 x1 x2 x3 x4 1 h hP hR) ⟨rfl, rfl, rfl, rfl, rfl, rfl, trivial⟩
def FX12_race_33  (x1 : Int32) (x2 : Int32) (h : ph_H) : Int32 × ph_H := FX12_race_38 2000 x1 x2 0 2 h
def PX12_race_33  (x1 : Int32) (x2 : Int32) (h : ph_H) : Prop := PX12_race_38 2000 x1 x2 0 2 h
set_option maxRecDepth 100000 in
set_option maxHeartbeats 4000000 in
theorem tX12_race_33 {X : fj_X} {Y : fj_Y} {l0 : Launch} {ad : Nat → Nat} (C : FC X Y l0 cX12_race 7 RX12 ({ frames := 3, cells := 0, slots := 0, locals := 72 } : Room) 0 0 (some .int)) (x1 : Int32) (x2 : Int32) (h : ph_H) (hP : PX12_race_33  x1 x2 h) (hR : RETi X Y ad 50 SM cX12_race (FX12_race_33  x1 x2 h)) : FJ X Y ad 50 SM h 33 [(0, .ref (ad 0)), (1, .int x1), (2, .int x2)] [] := by
  unfold PX12_race_33 at hP
  unfold FX12_race_33 at hR
  refine j_iconst (v := 0) C dX12_race_33 (by decide) ?_
  refine j_istore_n C dX12_race_34 rfl (by decide) rfl ?_
  refine j_iconst (v := 2) C dX12_race_35 (by decide) ?_
  refine j_istore C dX12_race_36 (by decide) rfl ?_
  exact j_vl (tX12_race_38 C 2000 x1 x2 0 2 h hP hR) ⟨rfl, rfl, rfl, rfl, rfl, trivial⟩
def FX12_race (a0 : Int32) (a1 : Int32) (h : ph_H) : Int32 × ph_H := if (h 0 36) = 0 then (((-2), (hs h 0 0 0))) else (if (FX12_isIn a1.toInt64 0 3) = 0 then (((-1), (hs h 0 0 0))) else (FX12_race_33  a0 a1 (FX12_findAhead (hs h 0 0 0))))
def PX12_race (a0 : Int32) (a1 : Int32) (h : ph_H) : Prop := ((h 0 36) = 0 → (True)) ∧ (¬ (h 0 36) = 0 → ((PX12_isIn a1.toInt64 0 3) ∧ (((FX12_isIn a1.toInt64 0 3) = 0 → (True)) ∧ (¬ (FX12_isIn a1.toInt64 0 3) = 0 → ((PX12_findAhead (hs h 0 0 0)) ∧ (PX12_race_33  a0 a1 (FX12_findAhead (hs h 0 0 0))))))))
set_option maxRecDepth 100000 in
set_option maxHeartbeats 4000000 in
theorem tX12_race {X : fj_X} {Y : fj_Y} {l0 : Launch} {ad : Nat → Nat} (C : FC X Y l0 cX12_race 7 RX12 ({ frames := 3, cells := 0, slots := 0, locals := 72 } : Room) 0 0 (some .int)) (a0 : Int32) (a1 : Int32) (h : ph_H) (hP : PX12_race a0 a1 h) (hR : RETi X Y ad 50 SM cX12_race (FX12_race a0 a1 h)) : FJ X Y ad 50 SM h 0 [(0, .ref (ad 0)), (1, .int a0), (2, .int a1)] [] := by
  unfold PX12_race at hP
  unfold FX12_race at hR
  refine j_aload_n C dX12_race_0 rfl rfl ?_
  refine j_iconst (v := 0) C dX12_race_1 (by decide) ?_
  refine pM_164 C dX12_race_2 ?_
  refine j_aload_n C dX12_race_5 rfl rfl ?_
  refine gM_294 (v := (h 0 36)) C dX12_race_6 (hz_i (by decide)) ?_
  refine j_if_ne (tgt := 15) C dX12_race_9 (by decide) (fun c0 => ?_) (fun c0 => ?_)
  · have hP := hP.2 c0
    rw [if_neg c0] at hR
    refine j_iload_n C dX12_race_15 rfl rfl ?_
    refine j_i2l C dX12_race_16 ?_
    refine j_lconst (v := 0) C dX12_race_17 (by decide) ?_
    refine j_ldc2 (v := 3) C dX12_race_18 kl_RX12_167 ?_
    obtain ⟨p4, hP⟩ := hP
    refine j_callS C (MX12_isIn a1.toInt64 0 3 (hs h 0 0 0) p4) dX12_race_21 (CKX12_isIn (by decide)) ⟨rfl, rfl⟩ lk_RX12_169 st_X12_isIn rfl (Nat.le_of_ble_eq_true rfl) ?_
    intro r S' h' hq
    obtain ⟨rfl, hh, rfl, hb6⟩ := hq
    rw [hh]
    refine j_if_ne (tgt := 29) C dX12_race_24 (by decide) (fun c1 => ?_) (fun c1 => ?_)
    · have hP := hP.2 c1
      rw [if_neg c1] at hR
      refine j_aload_n C dX12_race_29 rfl rfl ?_
      obtain ⟨p1, hP⟩ := hP
      refine j_callVv C (MX12_findAhead (hs h 0 0 0) p1) dX12_race_30 (CKX12_findAhead (by decide)) ⟨rfl, rfl⟩ lk_RX12_334 in_X12_findAhead se_X12_findAhead (by decide) rfl rfl rfl (Nat.le_of_ble_eq_true rfl) ?_
      intro S' h' hq
      obtain ⟨rfl, rfl⟩ := hq
      exact j_vl (tX12_race_33 C  a0 a1 (FX12_findAhead (hs h 0 0 0)) hP hR) ⟨rfl, rfl, rfl, trivial⟩
    · have hP := hP.1 c1
      rw [if_pos c1] at hR
      refine j_iconst (v := (-1)) C dX12_race_27 (by decide) ?_
      exact hR _ _ dX12_race_28
  · have hP := hP.1 c0
    rw [if_pos c0] at hR
    refine j_bipush (v := (-2)) C dX12_race_12 (by decide) ?_
    exact hR _ _ dX12_race_14
theorem MX12_race {l0 : Launch} {Y : fj_Y} {ad : Nat → Nat} (a0 : Int32) (a1 : Int32) (h : ph_H) (hP : PX12_race a0 a1 h) : MI l0 yX12_race cX12_race 7 (some .int) ({ frames := 3, cells := 0, slots := 0, locals := 72 } : Room) Y ad 50 SM h [.ref (ad 0), .int a0, .int a1] (fun r S' h' => S' = SM ∧ h' = (FX12_race a0 a1 h).2 ∧ r = (FX12_race a0 a1 h).1) := met_i (by decide) (Nat.le_of_ble_eq_true rfl) (fun _ _ _ _ => rfl) (fun X C K => j_vl (tX12_race C a0 a1 h hP (fun pc lv hd => K _ _ _ ⟨rfl, rfl, rfl⟩ pc lv hd)) ⟨rfl, rfl, rfl, trivial⟩)

-- X12_differ
def FX12_differ_117 (L50 : Int32 → Int32 → Int32 → Int32 → ph_H → Int32 × ph_H) (x1 : Int32) (x2 : Int32) (x4 : Int32) (s0 : Int32) (s1 : Int32) (h : ph_H) : Int32 × ph_H := L50 x1 x2 (s1 + s0) (x4 + 1) h
def PX12_differ_117 (LP50 : Int32 → Int32 → Int32 → Int32 → ph_H → Prop) (x1 : Int32) (x2 : Int32) (x4 : Int32) (s0 : Int32) (s1 : Int32) (h : ph_H) : Prop := LP50 x1 x2 (s1 + s0) (x4 + 1) h
set_option maxRecDepth 100000 in
set_option maxHeartbeats 4000000 in
theorem tX12_differ_117 {X : fj_X} {Y : fj_Y} {l0 : Launch} {ad : Nat → Nat} (C : FC X Y l0 cX12_differ 5 RX12 ({ frames := 1, cells := 0, slots := 0, locals := 25 } : Room) 0 0 (some .int)) (L50 : Int32 → Int32 → Int32 → Int32 → ph_H → Int32 × ph_H) (LP50 : Int32 → Int32 → Int32 → Int32 → ph_H → Prop) (hL50 : ∀ (x1 : Int32) (x2 : Int32) (x3 : Int32) (x4 : Int32) (h : ph_H), LP50 x1 x2 x3 x4 h → RETi X Y ad 50 SM cX12_differ (L50 x1 x2 x3 x4 h) → FJ X Y ad 50 SM h 50 [(0, .ref (ad 0)), (1, .int x1), (2, .int x2), (3, .int x3), (4, .int x4)] []) (x1 : Int32) (x2 : Int32) (x4 : Int32) (s0 : Int32) (s1 : Int32) (h : ph_H) (hP : PX12_differ_117 LP50 x1 x2 x4 s0 s1 h) (hR : RETi X Y ad 50 SM cX12_differ (FX12_differ_117 L50 x1 x2 x4 s0 s1 h)) : FJ X Y ad 50 SM h 117 [(0, .ref (ad 0)), (1, .int x1), (2, .int x2), (4, .int x4)] [.int s0, .int s1] := by
  unfold PX12_differ_117 at hP
  unfold FX12_differ_117 at hR
  refine j_iadd C dX12_differ_117 ?_
  refine j_istore_n C dX12_differ_118 rfl (by decide) rfl ?_
  refine j_iinc (v := (x4 + 1)) C dX12_differ_119 rfl rfl (by decide) rfl ?_
  refine j_goto (tgt := 50) C dX12_differ_122 (by decide) ?_
  exact j_vl (hL50 x1 x2 (s1 + s0) (x4 + 1) h hP hR) ⟨rfl, rfl, rfl, rfl, rfl, trivial⟩
def FX12_differ_112 (L50 : Int32 → Int32 → Int32 → Int32 → ph_H → Int32 × ph_H) (x1 : Int32) (x2 : Int32) (x4 : Int32) (s0 : Int32) (h : ph_H) : Int32 × ph_H := FX12_differ_117 L50 x1 x2 x4 1 s0 h
def PX12_differ_112 (LP50 : Int32 → Int32 → Int32 → Int32 → ph_H → Prop) (x1 : Int32) (x2 : Int32) (x4 : Int32) (s0 : Int32) (h : ph_H) : Prop := PX12_differ_117 LP50 x1 x2 x4 1 s0 h
set_option maxRecDepth 100000 in
set_option maxHeartbeats 4000000 in
theorem tX12_differ_112 {X : fj_X} {Y : fj_Y} {l0 : Launch} {ad : Nat → Nat} (C : FC X Y l0 cX12_differ 5 RX12 ({ frames := 1, cells := 0, slots := 0, locals := 25 } : Room) 0 0 (some .int)) (L50 : Int32 → Int32 → Int32 → Int32 → ph_H → Int32 × ph_H) (LP50 : Int32 → Int32 → Int32 → Int32 → ph_H → Prop) (hL50 : ∀ (x1 : Int32) (x2 : Int32) (x3 : Int32) (x4 : Int32) (h : ph_H), LP50 x1 x2 x3 x4 h → RETi X Y ad 50 SM cX12_differ (L50 x1 x2 x3 x4 h) → FJ X Y ad 50 SM h 50 [(0, .ref (ad 0)), (1, .int x1), (2, .int x2), (3, .int x3), (4, .int x4)] []) (x1 : Int32) (x2 : Int32) (x4 : Int32) (s0 : Int32) (h : ph_H) (hP : PX12_differ_112 LP50 x1 x2 x4 s0 h) (hR : RETi X Y ad 50 SM cX12_differ (FX12_differ_112 L50 x1 x2 x4 s0 h)) : FJ X Y ad 50 SM h 112 [(0, .ref (ad 0)), (1, .int x1), (2, .int x2), (4, .int x4)] [.int s0] := by
  unfold PX12_differ_112 at hP
  unfold FX12_differ_112 at hR
  refine j_iconst (v := 1) C dX12_differ_112 (by decide) ?_
  refine j_goto (tgt := 117) C dX12_differ_113 (by decide) ?_
  exact j_vl (tX12_differ_117 C L50 LP50 hL50 x1 x2 x4 1 s0 h hP hR) ⟨rfl, rfl, rfl, rfl, trivial⟩
def FX12_differ_165 (L128 : Int32 → Int32 → Int32 → Int32 → ph_H → Int32 × ph_H) (x1 : Int32) (x2 : Int32) (x4 : Int32) (s0 : Int32) (s1 : Int32) (h : ph_H) : Int32 × ph_H := L128 x1 x2 (s1 + s0) (x4 + 1) h
def PX12_differ_165 (LP128 : Int32 → Int32 → Int32 → Int32 → ph_H → Prop) (x1 : Int32) (x2 : Int32) (x4 : Int32) (s0 : Int32) (s1 : Int32) (h : ph_H) : Prop := LP128 x1 x2 (s1 + s0) (x4 + 1) h
set_option maxRecDepth 100000 in
set_option maxHeartbeats 4000000 in
theorem tX12_differ_165 {X : fj_X} {Y : fj_Y} {l0 : Launch} {ad : Nat → Nat} (C : FC X Y l0 cX12_differ 5 RX12 ({ frames := 1, cells := 0, slots := 0, locals := 25 } : Room) 0 0 (some .int)) (L128 : Int32 → Int32 → Int32 → Int32 → ph_H → Int32 × ph_H) (LP128 : Int32 → Int32 → Int32 → Int32 → ph_H → Prop) (hL128 : ∀ (x1 : Int32) (x2 : Int32) (x3 : Int32) (x4 : Int32) (h : ph_H), LP128 x1 x2 x3 x4 h → RETi X Y ad 50 SM cX12_differ (L128 x1 x2 x3 x4 h) → FJ X Y ad 50 SM h 128 [(0, .ref (ad 0)), (1, .int x1), (2, .int x2), (3, .int x3), (4, .int x4)] []) (x1 : Int32) (x2 : Int32) (x4 : Int32) (s0 : Int32) (s1 : Int32) (h : ph_H) (hP : PX12_differ_165 LP128 x1 x2 x4 s0 s1 h) (hR : RETi X Y ad 50 SM cX12_differ (FX12_differ_165 L128 x1 x2 x4 s0 s1 h)) : FJ X Y ad 50 SM h 165 [(0, .ref (ad 0)), (1, .int x1), (2, .int x2), (4, .int x4)] [.int s0, .int s1] := by
  unfold PX12_differ_165 at hP
  unfold FX12_differ_165 at hR
  refine j_iadd C dX12_differ_165 ?_
  refine j_istore_n C dX12_differ_166 rfl (by decide) rfl ?_
  refine j_iinc (v := (x4 + 1)) C dX12_differ_167 rfl rfl (by decide) rfl ?_
  refine j_goto (tgt := 128) C dX12_differ_170 (by decide) ?_
  exact j_vl (hL128 x1 x2 (s1 + s0) (x4 + 1) h hP hR) ⟨rfl, rfl, rfl, rfl, rfl, trivial⟩
def FX12_differ_128  : Nat → Int32 → Int32 → Int32 → Int32 → ph_H → Int32 × ph_H
  | 0, _, _, _, _, h => (0, h)
  | q + 1, x1, x2, x3, x4, h => if 4 ≤ x4 then ((x3, h)) else (if (h 22 (((4 * x1) + x4).toNatClampNeg)) = (h 22 (((4 * x2) + x4).toNatClampNeg)) then (FX12_differ_165 (FX12_differ_128  q) x1 x2 x4 0 x3 h) else (FX12_differ_165 (FX12_differ_128  q) x1 x2 x4 1 x3 h))
def PX12_differ_128  : Nat → Int32 → Int32 → Int32 → Int32 → ph_H → Prop
  | 0, _, _, _, _, _ => False
  | q + 1, x1, x2, x3, x4, h => (4 ≤ x4 → (True)) ∧ (¬ 4 ≤ x4 → (vp_in ((4 * x1) + x4) 1204 ∧ (vp_in ((4 * x2) + x4) 1204 ∧ (((h 22 (((4 * x1) + x4).toNatClampNeg)) = (h 22 (((4 * x2) + x4).toNatClampNeg)) → (PX12_differ_165 (PX12_differ_128  q) x1 x2 x4 0 x3 h)) ∧ (¬ (h 22 (((4 * x1) + x4).toNatClampNeg)) = (h 22 (((4 * x2) + x4).toNatClampNeg)) → (PX12_differ_165 (PX12_differ_128  q) x1 x2 x4 1 x3 h))))))
set_option maxRecDepth 100000 in
set_option maxHeartbeats 4000000 in
theorem tX12_differ_128 {X : fj_X} {Y : fj_Y} {l0 : Launch} {ad : Nat → Nat} (C : FC X Y l0 cX12_differ 5 RX12 ({ frames := 1, cells := 0, slots := 0, locals := 25 } : Room) 0 0 (some .int)) : ∀ (q : Nat) (x1 : Int32) (x2 : Int32) (x3 : Int32) (x4 : Int32) (h : ph_H), PX12_differ_128  q x1 x2 x3 x4 h → RETi X Y ad 50 SM cX12_differ (FX12_differ_128  q x1 x2 x3 x4 h) → FJ X Y ad 50 SM h 128 [(0, .ref (ad 0)), (1, .int x1), (2, .int x2), (3, .int x3), (4, .int x4)] [] := by
  intro q
  induction q with
  | zero =>
    intro x1 x2 x3 x4 h hP hR
    exact absurd hP id
  | succ q ih =>
    intro x1 x2 x3 x4 h hP hR
    unfold PX12_differ_128 at hP
    unfold FX12_differ_128 at hR
    refine j_iload C dX12_differ_128 rfl ?_
    refine j_iconst (v := 4) C dX12_differ_130 (by decide) ?_
    refine j_icmp_ge (tgt := 173) C dX12_differ_131 (by decide) (fun c0 => ?_) (fun c0 => ?_)
    · have hP := hP.1 c0
      rw [if_pos c0] at hR
      refine j_iload_n C dX12_differ_173 rfl rfl ?_
      exact hR _ _ dX12_differ_174
    · have hP := hP.2 c0
      rw [if_neg c0] at hR
      refine j_iload_n C dX12_differ_134 rfl rfl ?_
      refine j_aload_n C dX12_differ_135 rfl rfl ?_
      refine gM_74 C dX12_differ_136 ?_
      refine j_iconst (v := 4) C dX12_differ_139 (by decide) ?_
      refine j_iload_n C dX12_differ_140 rfl rfl ?_
      refine j_imul C dX12_differ_141 ?_
      refine j_iload C dX12_differ_142 rfl ?_
      refine j_iadd C dX12_differ_144 ?_
      obtain ⟨p8, hP⟩ := hP
      refine j_iald (k := 22) (v := (h 22 (((4 * x1) + x4).toNatClampNeg))) C dX12_differ_145 (by decide) rfl p8 rfl ?_
      refine j_aload_n C dX12_differ_146 rfl rfl ?_
      refine gM_74 C dX12_differ_147 ?_
      refine j_iconst (v := 4) C dX12_differ_150 (by decide) ?_
      refine j_iload_n C dX12_differ_151 rfl rfl ?_
      refine j_imul C dX12_differ_152 ?_
      refine j_iload C dX12_differ_153 rfl ?_
      refine j_iadd C dX12_differ_155 ?_
      obtain ⟨p17, hP⟩ := hP
      refine j_iald (k := 22) (v := (h 22 (((4 * x2) + x4).toNatClampNeg))) C dX12_differ_156 (by decide) rfl p17 rfl ?_
      refine j_icmp_eq (tgt := 164) C dX12_differ_157 (by decide) (fun c1 => ?_) (fun c1 => ?_)
      · have hP := hP.1 c1
        rw [if_pos c1] at hR
        refine j_iconst (v := 0) C dX12_differ_164 (by decide) ?_
        exact j_vl (tX12_differ_165 C (FX12_differ_128  q) (PX12_differ_128  q) (ih) x1 x2 x4 0 x3 h hP hR) ⟨rfl, rfl, rfl, rfl, trivial⟩
      · have hP := hP.2 c1
        rw [if_neg c1] at hR
        refine j_iconst (v := 1) C dX12_differ_160 (by decide) ?_
        refine j_goto (tgt := 165) C dX12_differ_161 (by decide) ?_
        exact j_vl (tX12_differ_165 C (FX12_differ_128  q) (PX12_differ_128  q) (ih) x1 x2 x4 1 x3 h hP hR) ⟨rfl, rfl, rfl, rfl, trivial⟩
def FX12_differ_50  : Nat → Int32 → Int32 → Int32 → Int32 → ph_H → Int32 × ph_H
  | 0, _, _, _, _, h => (0, h)
  | q + 1, x1, x2, x3, x4, h => if 28 ≤ x4 then (FX12_differ_128 2000 x1 x2 x3 0 h) else (if (h 20 (((28 * x1) + x4).toNatClampNeg)) = (h 20 (((28 * x2) + x4).toNatClampNeg)) then (if (h 21 (((28 * x1) + x4).toNatClampNeg)) = (h 21 (((28 * x2) + x4).toNatClampNeg)) then (FX12_differ_117 (FX12_differ_50  q) x1 x2 x4 0 x3 h) else (FX12_differ_112 (FX12_differ_50  q) x1 x2 x4 x3 h)) else (FX12_differ_112 (FX12_differ_50  q) x1 x2 x4 x3 h))
def PX12_differ_50  : Nat → Int32 → Int32 → Int32 → Int32 → ph_H → Prop
  | 0, _, _, _, _, _ => False
  | q + 1, x1, x2, x3, x4, h => (28 ≤ x4 → (PX12_differ_128 2000 x1 x2 x3 0 h)) ∧ (¬ 28 ≤ x4 → (vp_in ((28 * x1) + x4) 8428 ∧ (vp_in ((28 * x2) + x4) 8428 ∧ (((h 20 (((28 * x1) + x4).toNatClampNeg)) = (h 20 (((28 * x2) + x4).toNatClampNeg)) → (vp_in ((28 * x1) + x4) 8428 ∧ (vp_in ((28 * x2) + x4) 8428 ∧ (((h 21 (((28 * x1) + x4).toNatClampNeg)) = (h 21 (((28 * x2) + x4).toNatClampNeg)) → (PX12_differ_117 (PX12_differ_50  q) x1 x2 x4 0 x3 h)) ∧ (¬ (h 21 (((28 * x1) + x4).toNatClampNeg)) = (h 21 (((28 * x2) + x4).toNatClampNeg)) → (PX12_differ_112 (PX12_differ_50  q) x1 x2 x4 x3 h)))))) ∧ (¬ (h 20 (((28 * x1) + x4).toNatClampNeg)) = (h 20 (((28 * x2) + x4).toNatClampNeg)) → (PX12_differ_112 (PX12_differ_50  q) x1 x2 x4 x3 h))))))
set_option maxRecDepth 100000 in
set_option maxHeartbeats 4000000 in
theorem tX12_differ_50 {X : fj_X} {Y : fj_Y} {l0 : Launch} {ad : Nat → Nat} (C : FC X Y l0 cX12_differ 5 RX12 ({ frames := 1, cells := 0, slots := 0, locals := 25 } : Room) 0 0 (some .int)) : ∀ (q : Nat) (x1 : Int32) (x2 : Int32) (x3 : Int32) (x4 : Int32) (h : ph_H), PX12_differ_50  q x1 x2 x3 x4 h → RETi X Y ad 50 SM cX12_differ (FX12_differ_50  q x1 x2 x3 x4 h) → FJ X Y ad 50 SM h 50 [(0, .ref (ad 0)), (1, .int x1), (2, .int x2), (3, .int x3), (4, .int x4)] [] := by
  intro q
  induction q with
  | zero =>
    intro x1 x2 x3 x4 h hP hR
    exact absurd hP id
  | succ q ih =>
    intro x1 x2 x3 x4 h hP hR
    unfold PX12_differ_50 at hP
    unfold FX12_differ_50 at hR
    refine j_iload C dX12_differ_50 rfl ?_
    refine j_bipush (v := 28) C dX12_differ_52 (by decide) ?_
    refine j_icmp_ge (tgt := 125) C dX12_differ_54 (by decide) (fun c0 => ?_) (fun c0 => ?_)
    · have hP := hP.1 c0
      rw [if_pos c0] at hR
      refine j_iconst (v := 0) C dX12_differ_125 (by decide) ?_
      refine j_istore C dX12_differ_126 (by decide) rfl ?_
      exact j_vl (tX12_differ_128 C 2000 x1 x2 x3 0 h hP hR) ⟨rfl, rfl, rfl, rfl, rfl, trivial⟩
    · have hP := hP.2 c0
      rw [if_neg c0] at hR
      refine j_iload_n C dX12_differ_57 rfl rfl ?_
      refine j_aload_n C dX12_differ_58 rfl rfl ?_
      refine gM_68 C dX12_differ_59 ?_
      refine j_bipush (v := 28) C dX12_differ_62 (by decide) ?_
      refine j_iload_n C dX12_differ_64 rfl rfl ?_
      refine j_imul C dX12_differ_65 ?_
      refine j_iload C dX12_differ_66 rfl ?_
      refine j_iadd C dX12_differ_68 ?_
      obtain ⟨p8, hP⟩ := hP
      refine j_iald (k := 20) (v := (h 20 (((28 * x1) + x4).toNatClampNeg))) C dX12_differ_69 (by decide) rfl p8 rfl ?_
      refine j_aload_n C dX12_differ_70 rfl rfl ?_
      refine gM_68 C dX12_differ_71 ?_
      refine j_bipush (v := 28) C dX12_differ_74 (by decide) ?_
      refine j_iload_n C dX12_differ_76 rfl rfl ?_
      refine j_imul C dX12_differ_77 ?_
      refine j_iload C dX12_differ_78 rfl ?_
      refine j_iadd C dX12_differ_80 ?_
      obtain ⟨p17, hP⟩ := hP
      refine j_iald (k := 20) (v := (h 20 (((28 * x2) + x4).toNatClampNeg))) C dX12_differ_81 (by decide) rfl p17 rfl ?_
      refine j_icmp_ne (tgt := 112) C dX12_differ_82 (by decide) (fun c1 => ?_) (fun c1 => ?_)
      · have hP := hP.2 c1
        rw [if_neg c1] at hR
        exact j_vl (tX12_differ_112 C (FX12_differ_50  q) (PX12_differ_50  q) (ih) x1 x2 x4 x3 h hP hR) ⟨rfl, rfl, rfl, rfl, trivial⟩
      · have hP := hP.1 c1
        rw [if_pos c1] at hR
        refine j_aload_n C dX12_differ_85 rfl rfl ?_
        refine gM_71 C dX12_differ_86 ?_
        refine j_bipush (v := 28) C dX12_differ_89 (by decide) ?_
        refine j_iload_n C dX12_differ_91 rfl rfl ?_
        refine j_imul C dX12_differ_92 ?_
        refine j_iload C dX12_differ_93 rfl ?_
        refine j_iadd C dX12_differ_95 ?_
        obtain ⟨p7, hP⟩ := hP
        refine j_iald (k := 21) (v := (h 21 (((28 * x1) + x4).toNatClampNeg))) C dX12_differ_96 (by decide) rfl p7 rfl ?_
        refine j_aload_n C dX12_differ_97 rfl rfl ?_
        refine gM_71 C dX12_differ_98 ?_
        refine j_bipush (v := 28) C dX12_differ_101 (by decide) ?_
        refine j_iload_n C dX12_differ_103 rfl rfl ?_
        refine j_imul C dX12_differ_104 ?_
        refine j_iload C dX12_differ_105 rfl ?_
        refine j_iadd C dX12_differ_107 ?_
        obtain ⟨p16, hP⟩ := hP
        refine j_iald (k := 21) (v := (h 21 (((28 * x2) + x4).toNatClampNeg))) C dX12_differ_108 (by decide) rfl p16 rfl ?_
        refine j_icmp_eq (tgt := 116) C dX12_differ_109 (by decide) (fun c2 => ?_) (fun c2 => ?_)
        · have hP := hP.1 c2
          rw [if_pos c2] at hR
          refine j_iconst (v := 0) C dX12_differ_116 (by decide) ?_
          exact j_vl (tX12_differ_117 C (FX12_differ_50  q) (PX12_differ_50  q) (ih) x1 x2 x4 0 x3 h hP hR) ⟨rfl, rfl, rfl, rfl, trivial⟩
        · have hP := hP.2 c2
          rw [if_neg c2] at hR
          exact j_vl (tX12_differ_112 C (FX12_differ_50  q) (PX12_differ_50  q) (ih) x1 x2 x4 x3 h hP hR) ⟨rfl, rfl, rfl, rfl, trivial⟩
def FX12_differ (a0 : Int32) (a1 : Int32) (h : ph_H) : Int32 × ph_H := if (h 0 36) = 0 then (((-2), (hs h 0 0 0))) else (if (FX12_isIn a0.toInt64 0 ((h 0 38).toInt64)) = 0 then (((-1), (hs h 0 0 0))) else (if (FX12_isIn a1.toInt64 0 ((h 0 38).toInt64)) = 0 then (((-1), (hs h 0 0 0))) else (FX12_differ_50 2000 a0 a1 0 0 (hs h 0 0 0))))
def PX12_differ (a0 : Int32) (a1 : Int32) (h : ph_H) : Prop := ((h 0 36) = 0 → (True)) ∧ (¬ (h 0 36) = 0 → ((PX12_isIn a0.toInt64 0 ((h 0 38).toInt64)) ∧ (((FX12_isIn a0.toInt64 0 ((h 0 38).toInt64)) = 0 → (True)) ∧ (¬ (FX12_isIn a0.toInt64 0 ((h 0 38).toInt64)) = 0 → ((PX12_isIn a1.toInt64 0 ((h 0 38).toInt64)) ∧ (((FX12_isIn a1.toInt64 0 ((h 0 38).toInt64)) = 0 → (True)) ∧ (¬ (FX12_isIn a1.toInt64 0 ((h 0 38).toInt64)) = 0 → (PX12_differ_50 2000 a0 a1 0 0 (hs h 0 0 0)))))))))
set_option maxRecDepth 100000 in
set_option maxHeartbeats 4000000 in
theorem tX12_differ {X : fj_X} {Y : fj_Y} {l0 : Launch} {ad : Nat → Nat} (C : FC X Y l0 cX12_differ 5 RX12 ({ frames := 1, cells := 0, slots := 0, locals := 25 } : Room) 0 0 (some .int)) (a0 : Int32) (a1 : Int32) (h : ph_H) (hP : PX12_differ a0 a1 h) (hR : RETi X Y ad 50 SM cX12_differ (FX12_differ a0 a1 h)) : FJ X Y ad 50 SM h 0 [(0, .ref (ad 0)), (1, .int a0), (2, .int a1)] [] := by
  unfold PX12_differ at hP
  unfold FX12_differ at hR
  refine j_aload_n C dX12_differ_0 rfl rfl ?_
  refine j_iconst (v := 0) C dX12_differ_1 (by decide) ?_
  refine pM_164 C dX12_differ_2 ?_
  refine j_aload_n C dX12_differ_5 rfl rfl ?_
  refine gM_294 (v := (h 0 36)) C dX12_differ_6 (hz_i (by decide)) ?_
  refine j_if_ne (tgt := 15) C dX12_differ_9 (by decide) (fun c0 => ?_) (fun c0 => ?_)
  · have hP := hP.2 c0
    rw [if_neg c0] at hR
    refine j_iload_n C dX12_differ_15 rfl rfl ?_
    refine j_i2l C dX12_differ_16 ?_
    refine j_lconst (v := 0) C dX12_differ_17 (by decide) ?_
    refine j_aload_n C dX12_differ_18 rfl rfl ?_
    refine gM_304 (v := (h 0 38)) C dX12_differ_19 (hz_i (by decide)) ?_
    refine j_i2l C dX12_differ_22 ?_
    obtain ⟨p6, hP⟩ := hP
    refine j_callS C (MX12_isIn a0.toInt64 0 ((h 0 38).toInt64) (hs h 0 0 0) p6) dX12_differ_23 (CKX12_isIn (by decide)) ⟨rfl, rfl⟩ lk_RX12_169 st_X12_isIn rfl (Nat.le_of_ble_eq_true rfl) ?_
    intro r S' h' hq
    obtain ⟨rfl, hh, rfl, hb8⟩ := hq
    rw [hh]
    refine j_if_eq (tgt := 43) C dX12_differ_26 (by decide) (fun c1 => ?_) (fun c1 => ?_)
    · have hP := hP.1 c1
      rw [if_pos c1] at hR
      refine j_iconst (v := (-1)) C dX12_differ_43 (by decide) ?_
      exact hR _ _ dX12_differ_44
    · have hP := hP.2 c1
      rw [if_neg c1] at hR
      refine j_iload_n C dX12_differ_29 rfl rfl ?_
      refine j_i2l C dX12_differ_30 ?_
      refine j_lconst (v := 0) C dX12_differ_31 (by decide) ?_
      refine j_aload_n C dX12_differ_32 rfl rfl ?_
      refine gM_304 (v := (h 0 38)) C dX12_differ_33 (hz_i (by decide)) ?_
      refine j_i2l C dX12_differ_36 ?_
      obtain ⟨p6, hP⟩ := hP
      refine j_callS C (MX12_isIn a1.toInt64 0 ((h 0 38).toInt64) (hs h 0 0 0) p6) dX12_differ_37 (CKX12_isIn (by decide)) ⟨rfl, rfl⟩ lk_RX12_169 st_X12_isIn rfl (Nat.le_of_ble_eq_true rfl) ?_
      intro r S' h' hq
      obtain ⟨rfl, hh, rfl, hb8⟩ := hq
      rw [hh]
      refine j_if_ne (tgt := 45) C dX12_differ_40 (by decide) (fun c2 => ?_) (fun c2 => ?_)
      · have hP := hP.2 c2
        rw [if_neg c2] at hR
        refine j_iconst (v := 0) C dX12_differ_45 (by decide) ?_
        refine j_istore_n C dX12_differ_46 rfl (by decide) rfl ?_
        refine j_iconst (v := 0) C dX12_differ_47 (by decide) ?_
        refine j_istore C dX12_differ_48 (by decide) rfl ?_
        exact j_vl (tX12_differ_50 C 2000 a0 a1 0 0 (hs h 0 0 0) hP hR) ⟨rfl, rfl, rfl, rfl, rfl, trivial⟩
      · have hP := hP.1 c2
        rw [if_pos c2] at hR
        refine j_iconst (v := (-1)) C dX12_differ_43 (by decide) ?_
        exact hR _ _ dX12_differ_44
  · have hP := hP.1 c0
    rw [if_pos c0] at hR
    refine j_bipush (v := (-2)) C dX12_differ_12 (by decide) ?_
    exact hR _ _ dX12_differ_14
theorem MX12_differ {l0 : Launch} {Y : fj_Y} {ad : Nat → Nat} (a0 : Int32) (a1 : Int32) (h : ph_H) (hP : PX12_differ a0 a1 h) : MI l0 yX12_differ cX12_differ 5 (some .int) ({ frames := 1, cells := 0, slots := 0, locals := 25 } : Room) Y ad 50 SM h [.ref (ad 0), .int a0, .int a1] (fun r S' h' => S' = SM ∧ h' = (FX12_differ a0 a1 h).2 ∧ r = (FX12_differ a0 a1 h).1) := met_i (by decide) (Nat.le_of_ble_eq_true rfl) (fun _ _ _ _ => rfl) (fun X C K => j_vl (tX12_differ C a0 a1 h hP (fun pc lv hd => K _ _ _ ⟨rfl, rfl, rfl⟩ pc lv hd)) ⟨rfl, rfl, rfl, trivial⟩)

-- X12_tryRun
def FX12_tryRun_38 (L12 : Int32 → Int32 → ph_H → Int32 × ph_H) (x1 : Int32) (h : ph_H) : Int32 × ph_H := if (h 0 74) ≤ x1 then (L12 x1 (FX12_free (h 0 26) h) h) else (if (h 0 24) = (h 42 (x1.toNatClampNeg)) then (if 0 < (h 0 25) then ((0, h)) else (if (h 0 24) = 300 then ((0, h)) else (if (FX12_free (h 0 26) h) < 0 then ((0, h)) else (if (h 43 (x1.toNatClampNeg)) = (FX12_free (h 0 26) h) then ((0, h)) else (if (FX12_canGo (h 43 (x1.toNatClampNeg)) h) = 0 then ((0, h)) else (L12 (x1 + 1) (h 43 (x1.toNatClampNeg)) h)))))) else (L12 x1 (FX12_free (h 0 26) h) h))
def PX12_tryRun_38 (LP12 : Int32 → Int32 → ph_H → Prop) (x1 : Int32) (h : ph_H) : Prop := (PX12_free (h 0 26) h) ∧ (((h 0 74) ≤ x1 → (LP12 x1 (FX12_free (h 0 26) h) h)) ∧ (¬ (h 0 74) ≤ x1 → (vp_in x1 2 ∧ (((h 0 24) = (h 42 (x1.toNatClampNeg)) → ((0 < (h 0 25) → (True)) ∧ (¬ 0 < (h 0 25) → (((h 0 24) = 300 → (True)) ∧ (¬ (h 0 24) = 300 → (((FX12_free (h 0 26) h) < 0 → (True)) ∧ (¬ (FX12_free (h 0 26) h) < 0 → (vp_in x1 2 ∧ (((h 43 (x1.toNatClampNeg)) = (FX12_free (h 0 26) h) → (True)) ∧ (¬ (h 43 (x1.toNatClampNeg)) = (FX12_free (h 0 26) h) → (vp_in x1 2 ∧ ((PX12_canGo (h 43 (x1.toNatClampNeg)) h) ∧ (((FX12_canGo (h 43 (x1.toNatClampNeg)) h) = 0 → (True)) ∧ (¬ (FX12_canGo (h 43 (x1.toNatClampNeg)) h) = 0 → (vp_in x1 2 ∧ (LP12 (x1 + 1) (h 43 (x1.toNatClampNeg)) h)))))))))))))))) ∧ (¬ (h 0 24) = (h 42 (x1.toNatClampNeg)) → (LP12 x1 (FX12_free (h 0 26) h) h))))))
set_option maxRecDepth 100000 in
set_option maxHeartbeats 4000000 in
theorem tX12_tryRun_38 {X : fj_X} {Y : fj_Y} {l0 : Launch} {ad : Nat → Nat} (C : FC X Y l0 cX12_tryRun 3 RX12 ({ frames := 4, cells := 0, slots := 0, locals := 100 } : Room) 0 0 (some .boolean)) (L12 : Int32 → Int32 → ph_H → Int32 × ph_H) (LP12 : Int32 → Int32 → ph_H → Prop) (hL12 : ∀ (x1 : Int32) (x2 : Int32) (h : ph_H), LP12 x1 x2 h → RETz X Y ad 50 SM cX12_tryRun (L12 x1 x2 h) → FJ X Y ad 50 SM h 12 [(0, .ref (ad 0)), (1, .int x1), (2, .int x2)] []) (x1 : Int32) (h : ph_H) (hP : PX12_tryRun_38 LP12 x1 h) (hR : RETz X Y ad 50 SM cX12_tryRun (FX12_tryRun_38 L12 x1 h)) : FJ X Y ad 50 SM h 38 [(0, .ref (ad 0)), (1, .int x1)] [] := by
  unfold PX12_tryRun_38 at hP
  unfold FX12_tryRun_38 at hR
  refine j_aload_n C dX12_tryRun_38 rfl rfl ?_
  refine j_aload_n C dX12_tryRun_39 rfl rfl ?_
  refine gM_197 (v := (h 0 26)) C dX12_tryRun_40 rfl ?_
  obtain ⟨p3, hP⟩ := hP
  refine j_callV C (MX12_free (h 0 26) h p3) dX12_tryRun_43 (CKX12_free (by decide)) ⟨rfl, rfl⟩ lk_RX12_282 in_X12_free se_X12_free (by decide) rfl rfl rfl (Nat.le_of_ble_eq_true rfl) ?_
  intro r S' h' hq
  obtain ⟨rfl, hh, rfl⟩ := hq
  rw [hh]
  refine j_istore_n C dX12_tryRun_46 rfl (by decide) rfl ?_
  refine j_iload_n C dX12_tryRun_47 rfl rfl ?_
  refine j_aload_n C dX12_tryRun_48 rfl rfl ?_
  refine gM_340 (v := (h 0 74)) C dX12_tryRun_49 rfl ?_
  refine j_icmp_ge (tgt := 12) C dX12_tryRun_52 (by decide) (fun c0 => ?_) (fun c0 => ?_)
  · have hP := hP.1 c0
    rw [if_pos c0] at hR
    exact j_vl (hL12 x1 (FX12_free (h 0 26) h) h hP hR) ⟨rfl, rfl, rfl, trivial⟩
  · have hP := hP.2 c0
    rw [if_neg c0] at hR
    refine j_aload_n C dX12_tryRun_55 rfl rfl ?_
    refine gM_191 (v := (h 0 24)) C dX12_tryRun_56 rfl ?_
    refine j_aload_n C dX12_tryRun_59 rfl rfl ?_
    refine gM_140 C dX12_tryRun_60 ?_
    refine j_iload_n C dX12_tryRun_63 rfl rfl ?_
    obtain ⟨p5, hP⟩ := hP
    refine j_iald (k := 42) (v := (h 42 (x1.toNatClampNeg))) C dX12_tryRun_64 (by decide) rfl p5 rfl ?_
    refine j_icmp_ne (tgt := 12) C dX12_tryRun_65 (by decide) (fun c1 => ?_) (fun c1 => ?_)
    · have hP := hP.2 c1
      rw [if_neg c1] at hR
      exact j_vl (hL12 x1 (FX12_free (h 0 26) h) h hP hR) ⟨rfl, rfl, rfl, trivial⟩
    · have hP := hP.1 c1
      rw [if_pos c1] at hR
      refine j_aload_n C dX12_tryRun_68 rfl rfl ?_
      refine gM_194 (v := (h 0 25)) C dX12_tryRun_69 rfl ?_
      refine j_if_gt (tgt := 112) C dX12_tryRun_72 (by decide) (fun c2 => ?_) (fun c2 => ?_)
      · have hP := hP.1 c2
        rw [if_pos c2] at hR
        refine j_iconst (v := 0) C dX12_tryRun_112 (by decide) ?_
        exact hR bo_0 _ _ dX12_tryRun_113
      · have hP := hP.2 c2
        rw [if_neg c2] at hR
        refine j_aload_n C dX12_tryRun_75 rfl rfl ?_
        refine gM_191 (v := (h 0 24)) C dX12_tryRun_76 rfl ?_
        refine j_sipush (v := 300) C dX12_tryRun_79 (by decide) ?_
        refine j_icmp_eq (tgt := 112) C dX12_tryRun_82 (by decide) (fun c3 => ?_) (fun c3 => ?_)
        · have hP := hP.1 c3
          rw [if_pos c3] at hR
          refine j_iconst (v := 0) C dX12_tryRun_112 (by decide) ?_
          exact hR bo_0 _ _ dX12_tryRun_113
        · have hP := hP.2 c3
          rw [if_neg c3] at hR
          refine j_iload_n C dX12_tryRun_85 rfl rfl ?_
          refine j_if_lt (tgt := 112) C dX12_tryRun_86 (by decide) (fun c4 => ?_) (fun c4 => ?_)
          · have hP := hP.1 c4
            rw [if_pos c4] at hR
            refine j_iconst (v := 0) C dX12_tryRun_112 (by decide) ?_
            exact hR bo_0 _ _ dX12_tryRun_113
          · have hP := hP.2 c4
            rw [if_neg c4] at hR
            refine j_aload_n C dX12_tryRun_89 rfl rfl ?_
            refine gM_143 C dX12_tryRun_90 ?_
            refine j_iload_n C dX12_tryRun_93 rfl rfl ?_
            obtain ⟨p3, hP⟩ := hP
            refine j_iald (k := 43) (v := (h 43 (x1.toNatClampNeg))) C dX12_tryRun_94 (by decide) rfl p3 rfl ?_
            refine j_iload_n C dX12_tryRun_95 rfl rfl ?_
            refine j_icmp_eq (tgt := 112) C dX12_tryRun_96 (by decide) (fun c5 => ?_) (fun c5 => ?_)
            · have hP := hP.1 c5
              rw [if_pos c5] at hR
              refine j_iconst (v := 0) C dX12_tryRun_112 (by decide) ?_
              exact hR bo_0 _ _ dX12_tryRun_113
            · have hP := hP.2 c5
              rw [if_neg c5] at hR
              refine j_aload_n C dX12_tryRun_99 rfl rfl ?_
              refine j_aload_n C dX12_tryRun_100 rfl rfl ?_
              refine gM_143 C dX12_tryRun_101 ?_
              refine j_iload_n C dX12_tryRun_104 rfl rfl ?_
              obtain ⟨p4, hP⟩ := hP
              refine j_iald (k := 43) (v := (h 43 (x1.toNatClampNeg))) C dX12_tryRun_105 (by decide) rfl p4 rfl ?_
              obtain ⟨p6, hP⟩ := hP
              refine j_callV C (MX12_canGo (h 43 (x1.toNatClampNeg)) h p6) dX12_tryRun_106 (CKX12_canGo (by decide)) ⟨rfl, rfl⟩ lk_RX12_215 in_X12_canGo se_X12_canGo (by decide) rfl rfl rfl (Nat.le_of_ble_eq_true rfl) ?_
              intro r S' h' hq
              obtain ⟨rfl, hh, rfl, hb8⟩ := hq
              rw [hh]
              refine j_if_ne (tgt := 114) C dX12_tryRun_109 (by decide) (fun c6 => ?_) (fun c6 => ?_)
              · have hP := hP.2 c6
                rw [if_neg c6] at hR
                refine j_aload_n C dX12_tryRun_114 rfl rfl ?_
                refine gM_143 C dX12_tryRun_115 ?_
                refine j_iload_n C dX12_tryRun_118 rfl rfl ?_
                obtain ⟨p3, hP⟩ := hP
                refine j_iald (k := 43) (v := (h 43 (x1.toNatClampNeg))) C dX12_tryRun_119 (by decide) rfl p3 rfl ?_
                refine j_istore_n C dX12_tryRun_120 rfl (by decide) rfl ?_
                refine j_iinc (v := (x1 + 1)) C dX12_tryRun_121 rfl rfl (by decide) rfl ?_
                refine j_goto (tgt := 12) C dX12_tryRun_124 (by decide) ?_
                exact j_vl (hL12 (x1 + 1) (h 43 (x1.toNatClampNeg)) h hP hR) ⟨rfl, rfl, rfl, trivial⟩
              · have hP := hP.1 c6
                rw [if_pos c6] at hR
                refine j_iconst (v := 0) C dX12_tryRun_112 (by decide) ?_
                exact hR bo_0 _ _ dX12_tryRun_113
def FX12_tryRun_127  (x1 : Int32) (h : ph_H) : Int32 × ph_H := if x1 = (h 0 74) then ((1, h)) else ((0, h))
def PX12_tryRun_127  (x1 : Int32) (h : ph_H) : Prop := (x1 = (h 0 74) → (True)) ∧ (¬ x1 = (h 0 74) → (True))
set_option maxRecDepth 100000 in
set_option maxHeartbeats 4000000 in
theorem tX12_tryRun_127 {X : fj_X} {Y : fj_Y} {l0 : Launch} {ad : Nat → Nat} (C : FC X Y l0 cX12_tryRun 3 RX12 ({ frames := 4, cells := 0, slots := 0, locals := 100 } : Room) 0 0 (some .boolean)) (x1 : Int32) (h : ph_H) (hP : PX12_tryRun_127  x1 h) (hR : RETz X Y ad 50 SM cX12_tryRun (FX12_tryRun_127  x1 h)) : FJ X Y ad 50 SM h 127 [(0, .ref (ad 0)), (1, .int x1)] [] := by
  unfold PX12_tryRun_127 at hP
  unfold FX12_tryRun_127 at hR
  refine j_iload_n C dX12_tryRun_127 rfl rfl ?_
  refine j_aload_n C dX12_tryRun_128 rfl rfl ?_
  refine gM_340 (v := (h 0 74)) C dX12_tryRun_129 rfl ?_
  refine j_icmp_ne (tgt := 139) C dX12_tryRun_132 (by decide) (fun c0 => ?_) (fun c0 => ?_)
  · have hP := hP.2 c0
    rw [if_neg c0] at hR
    refine j_iconst (v := 0) C dX12_tryRun_139 (by decide) ?_
    exact hR bo_0 _ _ dX12_tryRun_140
  · have hP := hP.1 c0
    rw [if_pos c0] at hR
    refine j_iconst (v := 1) C dX12_tryRun_135 (by decide) ?_
    refine j_goto (tgt := 140) C dX12_tryRun_136 (by decide) ?_
    exact hR bo_1 _ _ dX12_tryRun_140
def FX12_tryRun_12  : Nat → Int32 → Int32 → ph_H → Int32 × ph_H
  | 0, _, _, h => (0, h)
  | q + 1, x1, x2, h => if x2 < 0 then (FX12_tryRun_127  x1 h) else (if (h 0 25) = 0 then (if 300 ≤ (h 0 24) then (FX12_tryRun_127  x1 h) else (FX12_tryRun_38 (FX12_tryRun_12  q) x1 (FX12_step x2 h))) else (FX12_tryRun_127  x1 h))
def PX12_tryRun_12  : Nat → Int32 → Int32 → ph_H → Prop
  | 0, _, _, _ => False
  | q + 1, x1, x2, h => (x2 < 0 → (PX12_tryRun_127  x1 h)) ∧ (¬ x2 < 0 → (((h 0 25) = 0 → ((300 ≤ (h 0 24) → (PX12_tryRun_127  x1 h)) ∧ (¬ 300 ≤ (h 0 24) → ((PX12_step x2 h) ∧ (PX12_tryRun_38 (PX12_tryRun_12  q) x1 (FX12_step x2 h)))))) ∧ (¬ (h 0 25) = 0 → (PX12_tryRun_127  x1 h))))
set_option maxRecDepth 100000 in
set_option maxHeartbeats 4000000 in
theorem tX12_tryRun_12 {X : fj_X} {Y : fj_Y} {l0 : Launch} {ad : Nat → Nat} (C : FC X Y l0 cX12_tryRun 3 RX12 ({ frames := 4, cells := 0, slots := 0, locals := 100 } : Room) 0 0 (some .boolean)) : ∀ (q : Nat) (x1 : Int32) (x2 : Int32) (h : ph_H), PX12_tryRun_12  q x1 x2 h → RETz X Y ad 50 SM cX12_tryRun (FX12_tryRun_12  q x1 x2 h) → FJ X Y ad 50 SM h 12 [(0, .ref (ad 0)), (1, .int x1), (2, .int x2)] [] := by
  intro q
  induction q with
  | zero =>
    intro x1 x2 h hP hR
    exact absurd hP id
  | succ q ih =>
    intro x1 x2 h hP hR
    unfold PX12_tryRun_12 at hP
    unfold FX12_tryRun_12 at hR
    refine j_iload_n C dX12_tryRun_12 rfl rfl ?_
    refine j_if_lt (tgt := 127) C dX12_tryRun_13 (by decide) (fun c0 => ?_) (fun c0 => ?_)
    · have hP := hP.1 c0
      rw [if_pos c0] at hR
      exact j_vl (tX12_tryRun_127 C  x1 h hP hR) ⟨rfl, rfl, trivial⟩
    · have hP := hP.2 c0
      rw [if_neg c0] at hR
      refine j_aload_n C dX12_tryRun_16 rfl rfl ?_
      refine gM_194 (v := (h 0 25)) C dX12_tryRun_17 rfl ?_
      refine j_if_ne (tgt := 127) C dX12_tryRun_20 (by decide) (fun c1 => ?_) (fun c1 => ?_)
      · have hP := hP.2 c1
        rw [if_neg c1] at hR
        exact j_vl (tX12_tryRun_127 C  x1 h hP hR) ⟨rfl, rfl, trivial⟩
      · have hP := hP.1 c1
        rw [if_pos c1] at hR
        refine j_aload_n C dX12_tryRun_23 rfl rfl ?_
        refine gM_191 (v := (h 0 24)) C dX12_tryRun_24 rfl ?_
        refine j_sipush (v := 300) C dX12_tryRun_27 (by decide) ?_
        refine j_icmp_ge (tgt := 127) C dX12_tryRun_30 (by decide) (fun c2 => ?_) (fun c2 => ?_)
        · have hP := hP.1 c2
          rw [if_pos c2] at hR
          exact j_vl (tX12_tryRun_127 C  x1 h hP hR) ⟨rfl, rfl, trivial⟩
        · have hP := hP.2 c2
          rw [if_neg c2] at hR
          refine j_aload_n C dX12_tryRun_33 rfl rfl ?_
          refine j_iload_n C dX12_tryRun_34 rfl rfl ?_
          obtain ⟨p2, hP⟩ := hP
          refine j_callVv C (MX12_step x2 h p2) dX12_tryRun_35 (CKX12_step (by decide)) ⟨rfl, rfl⟩ lk_RX12_275 in_X12_step se_X12_step (by decide) rfl rfl rfl (Nat.le_of_ble_eq_true rfl) ?_
          intro S' h' hq
          obtain ⟨rfl, rfl⟩ := hq
          exact j_vl (tX12_tryRun_38 C (FX12_tryRun_12  q) (PX12_tryRun_12  q) (ih) x1 (FX12_step x2 h) hP hR) ⟨rfl, rfl, trivial⟩
def FX12_tryRun_4  (h : ph_H) : Int32 × ph_H := FX12_tryRun_12 2000 0 (FX12_free 0 h) h
def PX12_tryRun_4  (h : ph_H) : Prop := (PX12_free 0 h) ∧ (PX12_tryRun_12 2000 0 (FX12_free 0 h) h)
set_option maxRecDepth 100000 in
set_option maxHeartbeats 4000000 in
theorem tX12_tryRun_4 {X : fj_X} {Y : fj_Y} {l0 : Launch} {ad : Nat → Nat} (C : FC X Y l0 cX12_tryRun 3 RX12 ({ frames := 4, cells := 0, slots := 0, locals := 100 } : Room) 0 0 (some .boolean)) (h : ph_H) (hP : PX12_tryRun_4  h) (hR : RETz X Y ad 50 SM cX12_tryRun (FX12_tryRun_4  h)) : FJ X Y ad 50 SM h 4 [(0, .ref (ad 0))] [] := by
  unfold PX12_tryRun_4 at hP
  unfold FX12_tryRun_4 at hR
  refine j_iconst (v := 0) C dX12_tryRun_4 (by decide) ?_
  refine j_istore_n C dX12_tryRun_5 rfl (by decide) rfl ?_
  refine j_aload_n C dX12_tryRun_6 rfl rfl ?_
  refine j_iconst (v := 0) C dX12_tryRun_7 (by decide) ?_
  obtain ⟨p4, hP⟩ := hP
  refine j_callV C (MX12_free 0 h p4) dX12_tryRun_8 (CKX12_free (by decide)) ⟨rfl, rfl⟩ lk_RX12_282 in_X12_free se_X12_free (by decide) rfl rfl rfl (Nat.le_of_ble_eq_true rfl) ?_
  intro r S' h' hq
  obtain ⟨rfl, hh, rfl⟩ := hq
  rw [hh]
  refine j_istore_n C dX12_tryRun_11 rfl (by decide) rfl ?_
  exact j_vl (tX12_tryRun_12 C 2000 0 (FX12_free 0 h) h hP hR) ⟨rfl, rfl, rfl, trivial⟩
def FX12_tryRun (h : ph_H) : Int32 × ph_H := FX12_tryRun_4  (FX12_begin h)
def PX12_tryRun (h : ph_H) : Prop := (PX12_begin h) ∧ (PX12_tryRun_4  (FX12_begin h))
set_option maxRecDepth 100000 in
set_option maxHeartbeats 4000000 in
theorem tX12_tryRun {X : fj_X} {Y : fj_Y} {l0 : Launch} {ad : Nat → Nat} (C : FC X Y l0 cX12_tryRun 3 RX12 ({ frames := 4, cells := 0, slots := 0, locals := 100 } : Room) 0 0 (some .boolean)) (h : ph_H) (hP : PX12_tryRun h) (hR : RETz X Y ad 50 SM cX12_tryRun (FX12_tryRun h)) : FJ X Y ad 50 SM h 0 [(0, .ref (ad 0))] [] := by
  unfold PX12_tryRun at hP
  unfold FX12_tryRun at hR
  refine j_aload_n C dX12_tryRun_0 rfl rfl ?_
  obtain ⟨p1, hP⟩ := hP
  refine j_callVv C (MX12_begin h p1) dX12_tryRun_1 (CKX12_begin (by decide)) ⟨rfl, rfl⟩ lk_RX12_285 in_X12_begin se_X12_begin (by decide) rfl rfl rfl (Nat.le_of_ble_eq_true rfl) ?_
  intro S' h' hq
  obtain ⟨rfl, rfl⟩ := hq
  exact j_vl (tX12_tryRun_4 C  (FX12_begin h) hP hR) ⟨rfl, trivial⟩
theorem MX12_tryRun {l0 : Launch} {Y : fj_Y} {ad : Nat → Nat} (h : ph_H) (hP : PX12_tryRun h) : MI l0 yX12_tryRun cX12_tryRun 3 (some .boolean) ({ frames := 4, cells := 0, slots := 0, locals := 100 } : Room) Y ad 50 SM h [.ref (ad 0)] (fun r S' h' => S' = SM ∧ h' = (FX12_tryRun h).2 ∧ r = (FX12_tryRun h).1 ∧ bo r) := met_i (by decide) (Nat.le_of_ble_eq_true rfl) (fun _ _ _ q => bo_n q.2.2.2) (fun X C K => j_vl (tX12_tryRun C h hP (fun b pc lv hd => K _ _ _ ⟨rfl, rfl, rfl, b⟩ pc lv hd)) ⟨rfl, trivial⟩)
end MG_08_m07
section MG_08_m08
-- X12_isOver
def FX12_isOver_103  (h : ph_H) : Int32 × ph_H := (1, h)
def PX12_isOver_103  (h : ph_H) : Prop := True
set_option maxRecDepth 100000 in
set_option maxHeartbeats 4000000 in
theorem tX12_isOver_103 {X : fj_X} {Y : fj_Y} {l0 : Launch} {ad : Nat → Nat} (C : FC X Y l0 cX12_isOver 2 RX12 ({ frames := 0, cells := 0, slots := 0, locals := 0 } : Room) 0 0 (some .boolean)) (h : ph_H) (hP : PX12_isOver_103  h) (hR : RETz X Y ad 50 SM cX12_isOver (FX12_isOver_103  h)) : FJ X Y ad 50 SM h 103 [] [] := by
  unfold PX12_isOver_103 at hP
  unfold FX12_isOver_103 at hR
  refine j_iconst (v := 1) C dX12_isOver_103 (by decide) ?_
  refine j_goto (tgt := 108) C dX12_isOver_104 (by decide) ?_
  exact hR bo_1 _ _ dX12_isOver_108
def FX12_isOver_85  (h : ph_H) : Int32 × ph_H := if 0 < (h 0 69) then (FX12_isOver_103  h) else (if (h 0 67) = (h 0 68) then (FX12_isOver_103  h) else ((0, h)))
def PX12_isOver_85  (h : ph_H) : Prop := (0 < (h 0 69) → (PX12_isOver_103  h)) ∧ (¬ 0 < (h 0 69) → (((h 0 67) = (h 0 68) → (PX12_isOver_103  h)) ∧ (¬ (h 0 67) = (h 0 68) → (True))))
set_option maxRecDepth 100000 in
set_option maxHeartbeats 4000000 in
theorem tX12_isOver_85 {X : fj_X} {Y : fj_Y} {l0 : Launch} {ad : Nat → Nat} (C : FC X Y l0 cX12_isOver 2 RX12 ({ frames := 0, cells := 0, slots := 0, locals := 0 } : Room) 0 0 (some .boolean)) (h : ph_H) (hP : PX12_isOver_85  h) (hR : RETz X Y ad 50 SM cX12_isOver (FX12_isOver_85  h)) : FJ X Y ad 50 SM h 85 [(0, .ref (ad 0))] [] := by
  unfold PX12_isOver_85 at hP
  unfold FX12_isOver_85 at hR
  refine j_aload_n C dX12_isOver_85 rfl rfl ?_
  refine gM_346 (v := (h 0 69)) C dX12_isOver_86 rfl ?_
  refine j_if_gt (tgt := 103) C dX12_isOver_89 (by decide) (fun c0 => ?_) (fun c0 => ?_)
  · have hP := hP.1 c0
    rw [if_pos c0] at hR
    exact j_vl (tX12_isOver_103 C  h hP hR) trivial
  · have hP := hP.2 c0
    rw [if_neg c0] at hR
    refine j_aload_n C dX12_isOver_92 rfl rfl ?_
    refine gM_343 (v := (h 0 67)) C dX12_isOver_93 rfl ?_
    refine j_aload_n C dX12_isOver_96 rfl rfl ?_
    refine gM_355 (v := (h 0 68)) C dX12_isOver_97 rfl ?_
    refine j_icmp_ne (tgt := 107) C dX12_isOver_100 (by decide) (fun c1 => ?_) (fun c1 => ?_)
    · have hP := hP.2 c1
      rw [if_neg c1] at hR
      refine j_iconst (v := 0) C dX12_isOver_107 (by decide) ?_
      exact hR bo_0 _ _ dX12_isOver_108
    · have hP := hP.1 c1
      rw [if_pos c1] at hR
      exact j_vl (tX12_isOver_103 C  h hP hR) trivial
def FX12_isOver_42  : Nat → Int32 → ph_H → Int32 × ph_H
  | 0, _, h => (0, h)
  | q + 1, x1, h => if 2 ≤ x1 then (FX12_isOver_85  (hs h 0 73 (h 0 25))) else (FX12_isOver_42  q (x1 + 1) (hs (hs h 40 x1.toNatClampNeg (h 42 (x1.toNatClampNeg))) 41 x1.toNatClampNeg (h 43 (x1.toNatClampNeg))))
def PX12_isOver_42  : Nat → Int32 → ph_H → Prop
  | 0, _, _ => False
  | q + 1, x1, h => (2 ≤ x1 → (PX12_isOver_85  (hs h 0 73 (h 0 25)))) ∧ (¬ 2 ≤ x1 → (vp_in x1 2 ∧ (vp_in x1 2 ∧ (vp_in x1 2 ∧ (vp_in x1 2 ∧ (PX12_isOver_42  q (x1 + 1) (hs (hs h 40 x1.toNatClampNeg (h 42 (x1.toNatClampNeg))) 41 x1.toNatClampNeg (h 43 (x1.toNatClampNeg)))))))))
set_option maxRecDepth 100000 in
set_option maxHeartbeats 4000000 in
theorem tX12_isOver_42 {X : fj_X} {Y : fj_Y} {l0 : Launch} {ad : Nat → Nat} (C : FC X Y l0 cX12_isOver 2 RX12 ({ frames := 0, cells := 0, slots := 0, locals := 0 } : Room) 0 0 (some .boolean)) : ∀ (q : Nat) (x1 : Int32) (h : ph_H), PX12_isOver_42  q x1 h → RETz X Y ad 50 SM cX12_isOver (FX12_isOver_42  q x1 h) → FJ X Y ad 50 SM h 42 [(0, .ref (ad 0)), (1, .int x1)] [] := by
  intro q
  induction q with
  | zero =>
    intro x1 h hP hR
    exact absurd hP id
  | succ q ih =>
    intro x1 h hP hR
    unfold PX12_isOver_42 at hP
    unfold FX12_isOver_42 at hR
    refine j_iload_n C dX12_isOver_42 rfl rfl ?_
    refine j_iconst (v := 2) C dX12_isOver_43 (by decide) ?_
    refine j_icmp_ge (tgt := 77) C dX12_isOver_44 (by decide) (fun c0 => ?_) (fun c0 => ?_)
    · have hP := hP.1 c0
      rw [if_pos c0] at hR
      refine j_aload_n C dX12_isOver_77 rfl rfl ?_
      refine j_aload_n C dX12_isOver_78 rfl rfl ?_
      refine gM_194 (v := (h 0 25)) C dX12_isOver_79 rfl ?_
      refine pM_352 C dX12_isOver_82 ?_
      exact j_vl (tX12_isOver_85 C  (hs h 0 73 (h 0 25)) hP hR) ⟨rfl, trivial⟩
    · have hP := hP.2 c0
      rw [if_neg c0] at hR
      refine j_aload_n C dX12_isOver_47 rfl rfl ?_
      refine gM_134 C dX12_isOver_48 ?_
      refine j_iload_n C dX12_isOver_51 rfl rfl ?_
      refine j_aload_n C dX12_isOver_52 rfl rfl ?_
      refine gM_140 C dX12_isOver_53 ?_
      refine j_iload_n C dX12_isOver_56 rfl rfl ?_
      obtain ⟨p6, hP⟩ := hP
      refine j_iald (k := 42) (v := (h 42 (x1.toNatClampNeg))) C dX12_isOver_57 (by decide) rfl p6 rfl ?_
      obtain ⟨p8, hP⟩ := hP
      refine j_iast (k := 40) C dX12_isOver_58 (by decide) rfl p8 ?_
      refine j_aload_n C dX12_isOver_59 rfl rfl ?_
      refine gM_137 C dX12_isOver_60 ?_
      refine j_iload_n C dX12_isOver_63 rfl rfl ?_
      refine j_aload_n C dX12_isOver_64 rfl rfl ?_
      refine gM_143 C dX12_isOver_65 ?_
      refine j_iload_n C dX12_isOver_68 rfl rfl ?_
      obtain ⟨p16, hP⟩ := hP
      refine j_iald (k := 43) (v := (h 43 (x1.toNatClampNeg))) C dX12_isOver_69 (by decide) rfl p16 (hz_k (by decide)) ?_
      obtain ⟨p18, hP⟩ := hP
      refine j_iast (k := 41) C dX12_isOver_70 (by decide) rfl p18 ?_
      refine j_iinc (v := (x1 + 1)) C dX12_isOver_71 rfl rfl (by decide) rfl ?_
      refine j_goto (tgt := 42) C dX12_isOver_74 (by decide) ?_
      exact j_vl (ih (x1 + 1) (hs (hs h 40 x1.toNatClampNeg (h 42 (x1.toNatClampNeg))) 41 x1.toNatClampNeg (h 43 (x1.toNatClampNeg))) hP hR) ⟨rfl, rfl, trivial⟩
def FX12_isOver (h : ph_H) : Int32 × ph_H := if (h 0 25) ≤ 0 then (FX12_isOver_85  (hs h 0 67 ((h 0 67) + 1))) else (if (h 0 69) = 0 then (FX12_isOver_42 2000 0 (hs (hs (hs h 0 67 ((h 0 67) + 1)) 0 69 ((h 0 67) + 1)) 0 70 (h 0 74))) else (FX12_isOver_85  (hs h 0 67 ((h 0 67) + 1))))
def PX12_isOver (h : ph_H) : Prop := ((h 0 25) ≤ 0 → (PX12_isOver_85  (hs h 0 67 ((h 0 67) + 1)))) ∧ (¬ (h 0 25) ≤ 0 → (((h 0 69) = 0 → (PX12_isOver_42 2000 0 (hs (hs (hs h 0 67 ((h 0 67) + 1)) 0 69 ((h 0 67) + 1)) 0 70 (h 0 74)))) ∧ (¬ (h 0 69) = 0 → (PX12_isOver_85  (hs h 0 67 ((h 0 67) + 1))))))
set_option maxRecDepth 100000 in
set_option maxHeartbeats 4000000 in
theorem tX12_isOver {X : fj_X} {Y : fj_Y} {l0 : Launch} {ad : Nat → Nat} (C : FC X Y l0 cX12_isOver 2 RX12 ({ frames := 0, cells := 0, slots := 0, locals := 0 } : Room) 0 0 (some .boolean)) (h : ph_H) (hP : PX12_isOver h) (hR : RETz X Y ad 50 SM cX12_isOver (FX12_isOver h)) : FJ X Y ad 50 SM h 0 [(0, .ref (ad 0))] [] := by
  unfold PX12_isOver at hP
  unfold FX12_isOver at hR
  refine j_aload_n C dX12_isOver_0 rfl rfl ?_
  refine j_dup C dX12_isOver_1 rfl ?_
  refine gM_343 (v := (h 0 67)) C dX12_isOver_2 rfl ?_
  refine j_iconst (v := 1) C dX12_isOver_5 (by decide) ?_
  refine j_iadd C dX12_isOver_6 ?_
  refine pM_343 C dX12_isOver_7 ?_
  refine j_aload_n C dX12_isOver_10 rfl rfl ?_
  refine gM_194 (v := (h 0 25)) C dX12_isOver_11 (hz_i (by decide)) ?_
  refine j_if_le (tgt := 85) C dX12_isOver_14 (by decide) (fun c0 => ?_) (fun c0 => ?_)
  · have hP := hP.1 c0
    rw [if_pos c0] at hR
    exact j_vl (tX12_isOver_85 C  (hs h 0 67 ((h 0 67) + 1)) hP hR) ⟨rfl, trivial⟩
  · have hP := hP.2 c0
    rw [if_neg c0] at hR
    refine j_aload_n C dX12_isOver_17 rfl rfl ?_
    refine gM_346 (v := (h 0 69)) C dX12_isOver_18 (hz_i (by decide)) ?_
    refine j_if_ne (tgt := 85) C dX12_isOver_21 (by decide) (fun c1 => ?_) (fun c1 => ?_)
    · have hP := hP.2 c1
      rw [if_neg c1] at hR
      exact j_vl (tX12_isOver_85 C  (hs h 0 67 ((h 0 67) + 1)) hP hR) ⟨rfl, trivial⟩
    · have hP := hP.1 c1
      rw [if_pos c1] at hR
      refine j_aload_n C dX12_isOver_24 rfl rfl ?_
      refine j_aload_n C dX12_isOver_25 rfl rfl ?_
      refine gM_343 (v := ((h 0 67) + 1)) C dX12_isOver_26 (hz_e) ?_
      refine pM_346 C dX12_isOver_29 ?_
      refine j_aload_n C dX12_isOver_32 rfl rfl ?_
      refine j_aload_n C dX12_isOver_33 rfl rfl ?_
      refine gM_340 (v := (h 0 74)) C dX12_isOver_34 ((hz_i (by decide)).trans (hz_i (by decide))) ?_
      refine pM_349 C dX12_isOver_37 ?_
      refine j_iconst (v := 0) C dX12_isOver_40 (by decide) ?_
      refine j_istore_n C dX12_isOver_41 rfl (by decide) rfl ?_
      exact j_vl (tX12_isOver_42 C 2000 0 (hs (hs (hs h 0 67 ((h 0 67) + 1)) 0 69 ((h 0 67) + 1)) 0 70 (h 0 74)) hP hR) ⟨rfl, rfl, trivial⟩
theorem MX12_isOver {l0 : Launch} {Y : fj_Y} {ad : Nat → Nat} (h : ph_H) (hP : PX12_isOver h) : MI l0 yX12_isOver cX12_isOver 2 (some .boolean) ({ frames := 0, cells := 0, slots := 0, locals := 0 } : Room) Y ad 50 SM h [.ref (ad 0)] (fun r S' h' => S' = SM ∧ h' = (FX12_isOver h).2 ∧ r = (FX12_isOver h).1 ∧ bo r) := met_i (by decide) (Nat.le_of_ble_eq_true rfl) (fun _ _ _ q => bo_n q.2.2.2) (fun X C K => j_vl (tX12_isOver C h hP (fun b pc lv hd => K _ _ _ ⟨rfl, rfl, rfl, b⟩ pc lv hd)) ⟨rfl, trivial⟩)

-- X12_tryLast
def FX12_tryLast_57 (L3 : Int32 → Int32 → Int32 → ph_H → Int32 × ph_H) (L12 : Int32 → Int32 → Int32 → Int32 → ph_H → Int32 × ph_H) (x1 : Int32) (x3 : Int32) (x4 : Int32) (x5 : Int32) (h : ph_H) : Int32 × ph_H := L12 x1 x3 x4 (x5 + 1) h
def PX12_tryLast_57 (LP3 : Int32 → Int32 → Int32 → ph_H → Prop) (LP12 : Int32 → Int32 → Int32 → Int32 → ph_H → Prop) (x1 : Int32) (x3 : Int32) (x4 : Int32) (x5 : Int32) (h : ph_H) : Prop := LP12 x1 x3 x4 (x5 + 1) h
set_option maxRecDepth 100000 in
set_option maxHeartbeats 4000000 in
theorem tX12_tryLast_57 {X : fj_X} {Y : fj_Y} {l0 : Launch} {ad : Nat → Nat} (C : FC X Y l0 cX12_tryLast 6 RX12 ({ frames := 5, cells := 0, slots := 0, locals := 122 } : Room) 0 0 (some .boolean)) (L3 : Int32 → Int32 → Int32 → ph_H → Int32 × ph_H) (LP3 : Int32 → Int32 → Int32 → ph_H → Prop) (hL3 : ∀ (x1 : Int32) (x3 : Int32) (x4 : Int32) (h : ph_H), LP3 x1 x3 x4 h → RETz X Y ad 50 SM cX12_tryLast (L3 x1 x3 x4 h) → FJ X Y ad 50 SM h 3 [(0, .ref (ad 0)), (1, .int x1), (3, .int x3), (4, .int x4)] []) (L12 : Int32 → Int32 → Int32 → Int32 → ph_H → Int32 × ph_H) (LP12 : Int32 → Int32 → Int32 → Int32 → ph_H → Prop) (hL12 : ∀ (x1 : Int32) (x3 : Int32) (x4 : Int32) (x5 : Int32) (h : ph_H), LP12 x1 x3 x4 x5 h → RETz X Y ad 50 SM cX12_tryLast (L12 x1 x3 x4 x5 h) → FJ X Y ad 50 SM h 12 [(0, .ref (ad 0)), (1, .int x1), (3, .int x3), (4, .int x4), (5, .int x5)] []) (x1 : Int32) (x3 : Int32) (x4 : Int32) (x5 : Int32) (h : ph_H) (hP : PX12_tryLast_57 LP3 LP12 x1 x3 x4 x5 h) (hR : RETz X Y ad 50 SM cX12_tryLast (FX12_tryLast_57 L3 L12 x1 x3 x4 x5 h)) : FJ X Y ad 50 SM h 57 [(0, .ref (ad 0)), (1, .int x1), (3, .int x3), (4, .int x4), (5, .int x5)] [] := by
  unfold PX12_tryLast_57 at hP
  unfold FX12_tryLast_57 at hR
  refine j_iinc (v := (x5 + 1)) C dX12_tryLast_57 rfl rfl (by decide) rfl ?_
  refine j_goto (tgt := 12) C dX12_tryLast_60 (by decide) ?_
  exact j_vl (hL12 x1 x3 x4 (x5 + 1) h hP hR) ⟨rfl, rfl, rfl, rfl, rfl, trivial⟩
def FX12_tryLast_52 (L3 : Int32 → Int32 → Int32 → ph_H → Int32 × ph_H) (L12 : Int32 → Int32 → Int32 → Int32 → ph_H → Int32 × ph_H) (x1 : Int32) (x3 : Int32) (x4 : Int32) (x5 : Int32) (s0 : Int32) (h : ph_H) : Int32 × ph_H := if s0 = 0 then (FX12_tryLast_57 L3 L12 x1 x3 x4 x5 h) else ((1, h))
def PX12_tryLast_52 (LP3 : Int32 → Int32 → Int32 → ph_H → Prop) (LP12 : Int32 → Int32 → Int32 → Int32 → ph_H → Prop) (x1 : Int32) (x3 : Int32) (x4 : Int32) (x5 : Int32) (s0 : Int32) (h : ph_H) : Prop := (s0 = 0 → (PX12_tryLast_57 LP3 LP12 x1 x3 x4 x5 h)) ∧ (¬ s0 = 0 → (True))
set_option maxRecDepth 100000 in
set_option maxHeartbeats 4000000 in
theorem tX12_tryLast_52 {X : fj_X} {Y : fj_Y} {l0 : Launch} {ad : Nat → Nat} (C : FC X Y l0 cX12_tryLast 6 RX12 ({ frames := 5, cells := 0, slots := 0, locals := 122 } : Room) 0 0 (some .boolean)) (L3 : Int32 → Int32 → Int32 → ph_H → Int32 × ph_H) (LP3 : Int32 → Int32 → Int32 → ph_H → Prop) (hL3 : ∀ (x1 : Int32) (x3 : Int32) (x4 : Int32) (h : ph_H), LP3 x1 x3 x4 h → RETz X Y ad 50 SM cX12_tryLast (L3 x1 x3 x4 h) → FJ X Y ad 50 SM h 3 [(0, .ref (ad 0)), (1, .int x1), (3, .int x3), (4, .int x4)] []) (L12 : Int32 → Int32 → Int32 → Int32 → ph_H → Int32 × ph_H) (LP12 : Int32 → Int32 → Int32 → Int32 → ph_H → Prop) (hL12 : ∀ (x1 : Int32) (x3 : Int32) (x4 : Int32) (x5 : Int32) (h : ph_H), LP12 x1 x3 x4 x5 h → RETz X Y ad 50 SM cX12_tryLast (L12 x1 x3 x4 x5 h) → FJ X Y ad 50 SM h 12 [(0, .ref (ad 0)), (1, .int x1), (3, .int x3), (4, .int x4), (5, .int x5)] []) (x1 : Int32) (x3 : Int32) (x4 : Int32) (x5 : Int32) (s0 : Int32) (h : ph_H) (hP : PX12_tryLast_52 LP3 LP12 x1 x3 x4 x5 s0 h) (hR : RETz X Y ad 50 SM cX12_tryLast (FX12_tryLast_52 L3 L12 x1 x3 x4 x5 s0 h)) : FJ X Y ad 50 SM h 52 [(0, .ref (ad 0)), (1, .int x1), (3, .int x3), (4, .int x4), (5, .int x5)] [.int s0] := by
  unfold PX12_tryLast_52 at hP
  unfold FX12_tryLast_52 at hR
  refine j_if_eq (tgt := 57) C dX12_tryLast_52 (by decide) (fun c0 => ?_) (fun c0 => ?_)
  · have hP := hP.1 c0
    rw [if_pos c0] at hR
    exact j_vl (tX12_tryLast_57 C L3 LP3 hL3 L12 LP12 hL12 x1 x3 x4 x5 h hP hR) ⟨rfl, rfl, rfl, rfl, rfl, trivial⟩
  · have hP := hP.2 c0
    rw [if_neg c0] at hR
    refine j_iconst (v := 1) C dX12_tryLast_55 (by decide) ?_
    exact hR bo_1 _ _ dX12_tryLast_56
def FX12_tryLast_45 (L3 : Int32 → Int32 → Int32 → ph_H → Int32 × ph_H) (L12 : Int32 → Int32 → Int32 → Int32 → ph_H → Int32 × ph_H) (x1 : Int32) (x3 : Int32) (x4 : Int32) (x5 : Int32) (s0 : Int32) (h : ph_H) : Int32 × ph_H := if s0 = 0 then (FX12_tryLast_57 L3 L12 x1 x3 x4 x5 h) else (FX12_tryLast_52 L3 L12 x1 x3 x4 x5 ((FX12_isOver h).1) ((FX12_isOver h).2))
def PX12_tryLast_45 (LP3 : Int32 → Int32 → Int32 → ph_H → Prop) (LP12 : Int32 → Int32 → Int32 → Int32 → ph_H → Prop) (x1 : Int32) (x3 : Int32) (x4 : Int32) (x5 : Int32) (s0 : Int32) (h : ph_H) : Prop := (s0 = 0 → (PX12_tryLast_57 LP3 LP12 x1 x3 x4 x5 h)) ∧ (¬ s0 = 0 → ((PX12_isOver h) ∧ (PX12_tryLast_52 LP3 LP12 x1 x3 x4 x5 ((FX12_isOver h).1) ((FX12_isOver h).2))))
set_option maxRecDepth 100000 in
set_option maxHeartbeats 4000000 in
theorem tX12_tryLast_45 {X : fj_X} {Y : fj_Y} {l0 : Launch} {ad : Nat → Nat} (C : FC X Y l0 cX12_tryLast 6 RX12 ({ frames := 5, cells := 0, slots := 0, locals := 122 } : Room) 0 0 (some .boolean)) (L3 : Int32 → Int32 → Int32 → ph_H → Int32 × ph_H) (LP3 : Int32 → Int32 → Int32 → ph_H → Prop) (hL3 : ∀ (x1 : Int32) (x3 : Int32) (x4 : Int32) (h : ph_H), LP3 x1 x3 x4 h → RETz X Y ad 50 SM cX12_tryLast (L3 x1 x3 x4 h) → FJ X Y ad 50 SM h 3 [(0, .ref (ad 0)), (1, .int x1), (3, .int x3), (4, .int x4)] []) (L12 : Int32 → Int32 → Int32 → Int32 → ph_H → Int32 × ph_H) (LP12 : Int32 → Int32 → Int32 → Int32 → ph_H → Prop) (hL12 : ∀ (x1 : Int32) (x3 : Int32) (x4 : Int32) (x5 : Int32) (h : ph_H), LP12 x1 x3 x4 x5 h → RETz X Y ad 50 SM cX12_tryLast (L12 x1 x3 x4 x5 h) → FJ X Y ad 50 SM h 12 [(0, .ref (ad 0)), (1, .int x1), (3, .int x3), (4, .int x4), (5, .int x5)] []) (x1 : Int32) (x3 : Int32) (x4 : Int32) (x5 : Int32) (s0 : Int32) (h : ph_H) (hP : PX12_tryLast_45 LP3 LP12 x1 x3 x4 x5 s0 h) (hR : RETz X Y ad 50 SM cX12_tryLast (FX12_tryLast_45 L3 L12 x1 x3 x4 x5 s0 h)) : FJ X Y ad 50 SM h 45 [(0, .ref (ad 0)), (1, .int x1), (3, .int x3), (4, .int x4), (5, .int x5)] [.int s0] := by
  unfold PX12_tryLast_45 at hP
  unfold FX12_tryLast_45 at hR
  refine j_if_eq (tgt := 57) C dX12_tryLast_45 (by decide) (fun c0 => ?_) (fun c0 => ?_)
  · have hP := hP.1 c0
    rw [if_pos c0] at hR
    exact j_vl (tX12_tryLast_57 C L3 LP3 hL3 L12 LP12 hL12 x1 x3 x4 x5 h hP hR) ⟨rfl, rfl, rfl, rfl, rfl, trivial⟩
  · have hP := hP.2 c0
    rw [if_neg c0] at hR
    refine j_aload_n C dX12_tryLast_48 rfl rfl ?_
    obtain ⟨p1, hP⟩ := hP
    refine j_callV C (MX12_isOver h p1) dX12_tryLast_49 (CKX12_isOver (by decide)) ⟨rfl, rfl⟩ lk_RX12_362 in_X12_isOver se_X12_isOver (by decide) rfl rfl rfl (Nat.le_of_ble_eq_true rfl) ?_
    intro r S' h' hq
    obtain ⟨e1, e2, e3, hb3⟩ := hq
    have e2 := e2.symm
    have e3 := e3.symm
    subst e1
    subst e2
    subst e3
    exact j_vl (tX12_tryLast_52 C L3 LP3 hL3 L12 LP12 hL12 x1 x3 x4 x5 ((FX12_isOver h).1) ((FX12_isOver h).2) hP hR) ⟨rfl, rfl, rfl, rfl, rfl, trivial⟩
def FX12_tryLast_12 (L3 : Int32 → Int32 → Int32 → ph_H → Int32 × ph_H) : Nat → Int32 → Int32 → Int32 → Int32 → ph_H → Int32 × ph_H
  | 0, _, _, _, _, h => (0, h)
  | q + 1, x1, x3, x4, x5, h => if 4 ≤ x5 then (L3 x1 x3 (x4 + 1) h) else (FX12_tryLast_45 L3 (FX12_tryLast_12 L3 q) x1 x3 x4 x5 ((FX12_tryRun (hs (hs (hs h 0 74 (x1 + 1)) 42 x1.toNatClampNeg x4) 43 x1.toNatClampNeg x5)).1) ((FX12_tryRun (hs (hs (hs h 0 74 (x1 + 1)) 42 x1.toNatClampNeg x4) 43 x1.toNatClampNeg x5)).2))
def PX12_tryLast_12 (LP3 : Int32 → Int32 → Int32 → ph_H → Prop) : Nat → Int32 → Int32 → Int32 → Int32 → ph_H → Prop
  | 0, _, _, _, _, _ => False
  | q + 1, x1, x3, x4, x5, h => (4 ≤ x5 → (LP3 x1 x3 (x4 + 1) h)) ∧ (¬ 4 ≤ x5 → (vp_in x1 2 ∧ (vp_in x1 2 ∧ ((PX12_tryRun (hs (hs (hs h 0 74 (x1 + 1)) 42 x1.toNatClampNeg x4) 43 x1.toNatClampNeg x5)) ∧ (PX12_tryLast_45 LP3 (PX12_tryLast_12 LP3 q) x1 x3 x4 x5 ((FX12_tryRun (hs (hs (hs h 0 74 (x1 + 1)) 42 x1.toNatClampNeg x4) 43 x1.toNatClampNeg x5)).1) ((FX12_tryRun (hs (hs (hs h 0 74 (x1 + 1)) 42 x1.toNatClampNeg x4) 43 x1.toNatClampNeg x5)).2))))))
set_option maxRecDepth 100000 in
set_option maxHeartbeats 4000000 in
theorem tX12_tryLast_12 {X : fj_X} {Y : fj_Y} {l0 : Launch} {ad : Nat → Nat} (C : FC X Y l0 cX12_tryLast 6 RX12 ({ frames := 5, cells := 0, slots := 0, locals := 122 } : Room) 0 0 (some .boolean)) (L3 : Int32 → Int32 → Int32 → ph_H → Int32 × ph_H) (LP3 : Int32 → Int32 → Int32 → ph_H → Prop) (hL3 : ∀ (x1 : Int32) (x3 : Int32) (x4 : Int32) (h : ph_H), LP3 x1 x3 x4 h → RETz X Y ad 50 SM cX12_tryLast (L3 x1 x3 x4 h) → FJ X Y ad 50 SM h 3 [(0, .ref (ad 0)), (1, .int x1), (3, .int x3), (4, .int x4)] []) : ∀ (q : Nat) (x1 : Int32) (x3 : Int32) (x4 : Int32) (x5 : Int32) (h : ph_H), PX12_tryLast_12 LP3 q x1 x3 x4 x5 h → RETz X Y ad 50 SM cX12_tryLast (FX12_tryLast_12 L3 q x1 x3 x4 x5 h) → FJ X Y ad 50 SM h 12 [(0, .ref (ad 0)), (1, .int x1), (3, .int x3), (4, .int x4), (5, .int x5)] [] := by
  intro q
  induction q with
  | zero =>
    intro x1 x3 x4 x5 h hP hR
    exact absurd hP id
  | succ q ih =>
    intro x1 x3 x4 x5 h hP hR
    unfold PX12_tryLast_12 at hP
    unfold FX12_tryLast_12 at hR
    refine j_iload C dX12_tryLast_12 rfl ?_
    refine j_iconst (v := 4) C dX12_tryLast_14 (by decide) ?_
    refine j_icmp_ge (tgt := 63) C dX12_tryLast_15 (by decide) (fun c0 => ?_) (fun c0 => ?_)
    · have hP := hP.1 c0
      rw [if_pos c0] at hR
      refine j_iinc (v := (x4 + 1)) C dX12_tryLast_63 rfl rfl (by decide) rfl ?_
      refine j_goto (tgt := 3) C dX12_tryLast_66 (by decide) ?_
      exact j_vl (hL3 x1 x3 (x4 + 1) h hP hR) ⟨rfl, rfl, rfl, rfl, trivial⟩
    · have hP := hP.2 c0
      rw [if_neg c0] at hR
      refine j_aload_n C dX12_tryLast_18 rfl rfl ?_
      refine j_iload_n C dX12_tryLast_19 rfl rfl ?_
      refine j_iconst (v := 1) C dX12_tryLast_20 (by decide) ?_
      refine j_iadd C dX12_tryLast_21 ?_
      refine pM_340 C dX12_tryLast_22 ?_
      refine j_aload_n C dX12_tryLast_25 rfl rfl ?_
      refine gM_140 C dX12_tryLast_26 ?_
      refine j_iload_n C dX12_tryLast_29 rfl rfl ?_
      refine j_iload C dX12_tryLast_30 rfl ?_
      obtain ⟨p9, hP⟩ := hP
      refine j_iast (k := 42) C dX12_tryLast_32 (by decide) rfl p9 ?_
      refine j_aload_n C dX12_tryLast_33 rfl rfl ?_
      refine gM_143 C dX12_tryLast_34 ?_
      refine j_iload_n C dX12_tryLast_37 rfl rfl ?_
      refine j_iload C dX12_tryLast_38 rfl ?_
      obtain ⟨p15, hP⟩ := hP
      refine j_iast (k := 43) C dX12_tryLast_40 (by decide) rfl p15 ?_
      refine j_aload_n C dX12_tryLast_41 rfl rfl ?_
      obtain ⟨p18, hP⟩ := hP
      refine j_callV C (MX12_tryRun (hs (hs (hs h 0 74 (x1 + 1)) 42 x1.toNatClampNeg x4) 43 x1.toNatClampNeg x5) p18) dX12_tryLast_42 (CKX12_tryRun (by decide)) ⟨rfl, rfl⟩ lk_RX12_358 in_X12_tryRun se_X12_tryRun (by decide) rfl rfl rfl (Nat.le_of_ble_eq_true rfl) ?_
      intro r S' h' hq
      obtain ⟨e1, e2, e3, hb20⟩ := hq
      have e2 := e2.symm
      have e3 := e3.symm
      subst e1
      subst e2
      subst e3
      exact j_vl (tX12_tryLast_45 C L3 LP3 hL3 (FX12_tryLast_12 L3 q) (PX12_tryLast_12 LP3 q) (ih) x1 x3 x4 x5 ((FX12_tryRun (hs (hs (hs h 0 74 (x1 + 1)) 42 x1.toNatClampNeg x4) 43 x1.toNatClampNeg x5)).1) ((FX12_tryRun (hs (hs (hs h 0 74 (x1 + 1)) 42 x1.toNatClampNeg x4) 43 x1.toNatClampNeg x5)).2) hP hR) ⟨rfl, rfl, rfl, rfl, rfl, trivial⟩
def FX12_tryLast_3  : Nat → Int32 → Int32 → Int32 → ph_H → Int32 × ph_H
  | 0, _, _, _, h => (0, h)
  | q + 1, x1, x3, x4, h => if x3 ≤ x4 then ((0, h)) else (FX12_tryLast_12 (FX12_tryLast_3  q) 2000 x1 x3 x4 0 h)
def PX12_tryLast_3  : Nat → Int32 → Int32 → Int32 → ph_H → Prop
  | 0, _, _, _, _ => False
  | q + 1, x1, x3, x4, h => (x3 ≤ x4 → (True)) ∧ (¬ x3 ≤ x4 → (PX12_tryLast_12 (PX12_tryLast_3  q) 2000 x1 x3 x4 0 h))
set_option maxRecDepth 100000 in
set_option maxHeartbeats 4000000 in
theorem tX12_tryLast_3 {X : fj_X} {Y : fj_Y} {l0 : Launch} {ad : Nat → Nat} (C : FC X Y l0 cX12_tryLast 6 RX12 ({ frames := 5, cells := 0, slots := 0, locals := 122 } : Room) 0 0 (some .boolean)) : ∀ (q : Nat) (x1 : Int32) (x3 : Int32) (x4 : Int32) (h : ph_H), PX12_tryLast_3  q x1 x3 x4 h → RETz X Y ad 50 SM cX12_tryLast (FX12_tryLast_3  q x1 x3 x4 h) → FJ X Y ad 50 SM h 3 [(0, .ref (ad 0)), (1, .int x1), (3, .int x3), (4, .int x4)] [] := by
  intro q
  induction q with
  | zero =>
    intro x1 x3 x4 h hP hR
    exact absurd hP id
  | succ q ih =>
    intro x1 x3 x4 h hP hR
    unfold PX12_tryLast_3 at hP
    unfold FX12_tryLast_3 at hR
    refine j_iload C dX12_tryLast_3 rfl ?_
    refine j_iload_n C dX12_tryLast_5 rfl rfl ?_
    refine j_icmp_ge (tgt := 69) C dX12_tryLast_6 (by decide) (fun c0 => ?_) (fun c0 => ?_)
    · have hP := hP.1 c0
      rw [if_pos c0] at hR
      refine j_iconst (v := 0) C dX12_tryLast_69 (by decide) ?_
      exact hR bo_0 _ _ dX12_tryLast_70
    · have hP := hP.2 c0
      rw [if_neg c0] at hR
      refine j_iconst (v := 0) C dX12_tryLast_9 (by decide) ?_
      refine j_istore C dX12_tryLast_10 (by decide) rfl ?_
      exact j_vl (tX12_tryLast_12 C (FX12_tryLast_3  q) (PX12_tryLast_3  q) (ih) 2000 x1 x3 x4 0 h hP hR) ⟨rfl, rfl, rfl, rfl, rfl, trivial⟩
def FX12_tryLast (a0 : Int32) (a1 : Int32) (a2 : Int32) (h : ph_H) : Int32 × ph_H := FX12_tryLast_3 2000 a0 a2 a1 h
def PX12_tryLast (a0 : Int32) (a1 : Int32) (a2 : Int32) (h : ph_H) : Prop := PX12_tryLast_3 2000 a0 a2 a1 h
set_option maxRecDepth 100000 in
set_option maxHeartbeats 4000000 in
theorem tX12_tryLast {X : fj_X} {Y : fj_Y} {l0 : Launch} {ad : Nat → Nat} (C : FC X Y l0 cX12_tryLast 6 RX12 ({ frames := 5, cells := 0, slots := 0, locals := 122 } : Room) 0 0 (some .boolean)) (a0 : Int32) (a1 : Int32) (a2 : Int32) (h : ph_H) (hP : PX12_tryLast a0 a1 a2 h) (hR : RETz X Y ad 50 SM cX12_tryLast (FX12_tryLast a0 a1 a2 h)) : FJ X Y ad 50 SM h 0 [(0, .ref (ad 0)), (1, .int a0), (2, .int a1), (3, .int a2)] [] := by
  unfold PX12_tryLast at hP
  unfold FX12_tryLast at hR
  refine j_iload_n C dX12_tryLast_0 rfl rfl ?_
  refine j_istore C dX12_tryLast_1 (by decide) rfl ?_
  exact j_vl (tX12_tryLast_3 C 2000 a0 a2 a1 h hP hR) ⟨rfl, rfl, rfl, rfl, trivial⟩
theorem MX12_tryLast {l0 : Launch} {Y : fj_Y} {ad : Nat → Nat} (a0 : Int32) (a1 : Int32) (a2 : Int32) (h : ph_H) (hP : PX12_tryLast a0 a1 a2 h) : MI l0 yX12_tryLast cX12_tryLast 6 (some .boolean) ({ frames := 5, cells := 0, slots := 0, locals := 122 } : Room) Y ad 50 SM h [.ref (ad 0), .int a0, .int a1, .int a2] (fun r S' h' => S' = SM ∧ h' = (FX12_tryLast a0 a1 a2 h).2 ∧ r = (FX12_tryLast a0 a1 a2 h).1 ∧ bo r) := met_i (by decide) (Nat.le_of_ble_eq_true rfl) (fun _ _ _ q => bo_n q.2.2.2) (fun X C K => j_vl (tX12_tryLast C a0 a1 a2 h hP (fun b pc lv hd => K _ _ _ ⟨rfl, rfl, rfl, b⟩ pc lv hd)) ⟨rfl, rfl, rfl, rfl, trivial⟩)

-- X12_tryBoth
def FX12_tryBoth_61 (L2 : Int32 → Int32 → ph_H → Int32 × ph_H) (L9 : Int32 → Int32 → Int32 → ph_H → Int32 × ph_H) (x1 : Int32) (x2 : Int32) (x3 : Int32) (h : ph_H) : Int32 × ph_H := L9 x1 x2 (x3 + 1) h
def PX12_tryBoth_61 (LP2 : Int32 → Int32 → ph_H → Prop) (LP9 : Int32 → Int32 → Int32 → ph_H → Prop) (x1 : Int32) (x2 : Int32) (x3 : Int32) (h : ph_H) : Prop := LP9 x1 x2 (x3 + 1) h
set_option maxRecDepth 100000 in
set_option maxHeartbeats 4000000 in
theorem tX12_tryBoth_61 {X : fj_X} {Y : fj_Y} {l0 : Launch} {ad : Nat → Nat} (C : FC X Y l0 cX12_tryBoth 5 RX12 ({ frames := 6, cells := 0, slots := 0, locals := 147 } : Room) 0 0 (some .boolean)) (L2 : Int32 → Int32 → ph_H → Int32 × ph_H) (LP2 : Int32 → Int32 → ph_H → Prop) (hL2 : ∀ (x1 : Int32) (x2 : Int32) (h : ph_H), LP2 x1 x2 h → RETz X Y ad 50 SM cX12_tryBoth (L2 x1 x2 h) → FJ X Y ad 50 SM h 2 [(0, .ref (ad 0)), (1, .int x1), (2, .int x2)] []) (L9 : Int32 → Int32 → Int32 → ph_H → Int32 × ph_H) (LP9 : Int32 → Int32 → Int32 → ph_H → Prop) (hL9 : ∀ (x1 : Int32) (x2 : Int32) (x3 : Int32) (h : ph_H), LP9 x1 x2 x3 h → RETz X Y ad 50 SM cX12_tryBoth (L9 x1 x2 x3 h) → FJ X Y ad 50 SM h 9 [(0, .ref (ad 0)), (1, .int x1), (2, .int x2), (3, .int x3)] []) (x1 : Int32) (x2 : Int32) (x3 : Int32) (h : ph_H) (hP : PX12_tryBoth_61 LP2 LP9 x1 x2 x3 h) (hR : RETz X Y ad 50 SM cX12_tryBoth (FX12_tryBoth_61 L2 L9 x1 x2 x3 h)) : FJ X Y ad 50 SM h 61 [(0, .ref (ad 0)), (1, .int x1), (2, .int x2), (3, .int x3)] [] := by
  unfold PX12_tryBoth_61 at hP
  unfold FX12_tryBoth_61 at hR
  refine j_iinc (v := (x3 + 1)) C dX12_tryBoth_61 rfl rfl (by decide) rfl ?_
  refine j_goto (tgt := 9) C dX12_tryBoth_64 (by decide) ?_
  exact j_vl (hL9 x1 x2 (x3 + 1) h hP hR) ⟨rfl, rfl, rfl, rfl, trivial⟩
def FX12_tryBoth_56 (L2 : Int32 → Int32 → ph_H → Int32 × ph_H) (L9 : Int32 → Int32 → Int32 → ph_H → Int32 × ph_H) (x1 : Int32) (x2 : Int32) (x3 : Int32) (s0 : Int32) (h : ph_H) : Int32 × ph_H := if s0 = 0 then (FX12_tryBoth_61 L2 L9 x1 x2 x3 h) else ((1, h))
def PX12_tryBoth_56 (LP2 : Int32 → Int32 → ph_H → Prop) (LP9 : Int32 → Int32 → Int32 → ph_H → Prop) (x1 : Int32) (x2 : Int32) (x3 : Int32) (s0 : Int32) (h : ph_H) : Prop := (s0 = 0 → (PX12_tryBoth_61 LP2 LP9 x1 x2 x3 h)) ∧ (¬ s0 = 0 → (True))
set_option maxRecDepth 100000 in
set_option maxHeartbeats 4000000 in
theorem tX12_tryBoth_56 {X : fj_X} {Y : fj_Y} {l0 : Launch} {ad : Nat → Nat} (C : FC X Y l0 cX12_tryBoth 5 RX12 ({ frames := 6, cells := 0, slots := 0, locals := 147 } : Room) 0 0 (some .boolean)) (L2 : Int32 → Int32 → ph_H → Int32 × ph_H) (LP2 : Int32 → Int32 → ph_H → Prop) (hL2 : ∀ (x1 : Int32) (x2 : Int32) (h : ph_H), LP2 x1 x2 h → RETz X Y ad 50 SM cX12_tryBoth (L2 x1 x2 h) → FJ X Y ad 50 SM h 2 [(0, .ref (ad 0)), (1, .int x1), (2, .int x2)] []) (L9 : Int32 → Int32 → Int32 → ph_H → Int32 × ph_H) (LP9 : Int32 → Int32 → Int32 → ph_H → Prop) (hL9 : ∀ (x1 : Int32) (x2 : Int32) (x3 : Int32) (h : ph_H), LP9 x1 x2 x3 h → RETz X Y ad 50 SM cX12_tryBoth (L9 x1 x2 x3 h) → FJ X Y ad 50 SM h 9 [(0, .ref (ad 0)), (1, .int x1), (2, .int x2), (3, .int x3)] []) (x1 : Int32) (x2 : Int32) (x3 : Int32) (s0 : Int32) (h : ph_H) (hP : PX12_tryBoth_56 LP2 LP9 x1 x2 x3 s0 h) (hR : RETz X Y ad 50 SM cX12_tryBoth (FX12_tryBoth_56 L2 L9 x1 x2 x3 s0 h)) : FJ X Y ad 50 SM h 56 [(0, .ref (ad 0)), (1, .int x1), (2, .int x2), (3, .int x3)] [.int s0] := by
  unfold PX12_tryBoth_56 at hP
  unfold FX12_tryBoth_56 at hR
  refine j_if_eq (tgt := 61) C dX12_tryBoth_56 (by decide) (fun c0 => ?_) (fun c0 => ?_)
  · have hP := hP.1 c0
    rw [if_pos c0] at hR
    exact j_vl (tX12_tryBoth_61 C L2 LP2 hL2 L9 LP9 hL9 x1 x2 x3 h hP hR) ⟨rfl, rfl, rfl, rfl, trivial⟩
  · have hP := hP.2 c0
    rw [if_neg c0] at hR
    refine j_iconst (v := 1) C dX12_tryBoth_59 (by decide) ?_
    exact hR bo_1 _ _ dX12_tryBoth_60
def FX12_tryBoth_37 (L2 : Int32 → Int32 → ph_H → Int32 × ph_H) (L9 : Int32 → Int32 → Int32 → ph_H → Int32 × ph_H) (x1 : Int32) (x2 : Int32) (x3 : Int32) (s0 : Int32) (h : ph_H) : Int32 × ph_H := if s0 = 0 then (FX12_tryBoth_61 L2 L9 x1 x2 x3 h) else (FX12_tryBoth_56 L2 L9 x1 x2 x3 ((FX12_tryLast 1 (x2 + 1) (h 0 24) h).1) ((FX12_tryLast 1 (x2 + 1) (h 0 24) h).2))
def PX12_tryBoth_37 (LP2 : Int32 → Int32 → ph_H → Prop) (LP9 : Int32 → Int32 → Int32 → ph_H → Prop) (x1 : Int32) (x2 : Int32) (x3 : Int32) (s0 : Int32) (h : ph_H) : Prop := (s0 = 0 → (PX12_tryBoth_61 LP2 LP9 x1 x2 x3 h)) ∧ (¬ s0 = 0 → ((PX12_tryLast 1 (x2 + 1) (h 0 24) h) ∧ (PX12_tryBoth_56 LP2 LP9 x1 x2 x3 ((FX12_tryLast 1 (x2 + 1) (h 0 24) h).1) ((FX12_tryLast 1 (x2 + 1) (h 0 24) h).2))))
set_option maxRecDepth 100000 in
set_option maxHeartbeats 4000000 in
theorem tX12_tryBoth_37 {X : fj_X} {Y : fj_Y} {l0 : Launch} {ad : Nat → Nat} (C : FC X Y l0 cX12_tryBoth 5 RX12 ({ frames := 6, cells := 0, slots := 0, locals := 147 } : Room) 0 0 (some .boolean)) (L2 : Int32 → Int32 → ph_H → Int32 × ph_H) (LP2 : Int32 → Int32 → ph_H → Prop) (hL2 : ∀ (x1 : Int32) (x2 : Int32) (h : ph_H), LP2 x1 x2 h → RETz X Y ad 50 SM cX12_tryBoth (L2 x1 x2 h) → FJ X Y ad 50 SM h 2 [(0, .ref (ad 0)), (1, .int x1), (2, .int x2)] []) (L9 : Int32 → Int32 → Int32 → ph_H → Int32 × ph_H) (LP9 : Int32 → Int32 → Int32 → ph_H → Prop) (hL9 : ∀ (x1 : Int32) (x2 : Int32) (x3 : Int32) (h : ph_H), LP9 x1 x2 x3 h → RETz X Y ad 50 SM cX12_tryBoth (L9 x1 x2 x3 h) → FJ X Y ad 50 SM h 9 [(0, .ref (ad 0)), (1, .int x1), (2, .int x2), (3, .int x3)] []) (x1 : Int32) (x2 : Int32) (x3 : Int32) (s0 : Int32) (h : ph_H) (hP : PX12_tryBoth_37 LP2 LP9 x1 x2 x3 s0 h) (hR : RETz X Y ad 50 SM cX12_tryBoth (FX12_tryBoth_37 L2 L9 x1 x2 x3 s0 h)) : FJ X Y ad 50 SM h 37 [(0, .ref (ad 0)), (1, .int x1), (2, .int x2), (3, .int x3)] [.int s0] := by
  unfold PX12_tryBoth_37 at hP
  unfold FX12_tryBoth_37 at hR
  refine j_if_eq (tgt := 61) C dX12_tryBoth_37 (by decide) (fun c0 => ?_) (fun c0 => ?_)
  · have hP := hP.1 c0
    rw [if_pos c0] at hR
    exact j_vl (tX12_tryBoth_61 C L2 LP2 hL2 L9 LP9 hL9 x1 x2 x3 h hP hR) ⟨rfl, rfl, rfl, rfl, trivial⟩
  · have hP := hP.2 c0
    rw [if_neg c0] at hR
    refine j_aload_n C dX12_tryBoth_40 rfl rfl ?_
    refine gM_191 (v := (h 0 24)) C dX12_tryBoth_41 rfl ?_
    refine j_istore C dX12_tryBoth_44 (by decide) rfl ?_
    refine j_aload_n C dX12_tryBoth_46 rfl rfl ?_
    refine j_iconst (v := 1) C dX12_tryBoth_47 (by decide) ?_
    refine j_iload_n C dX12_tryBoth_48 rfl rfl ?_
    refine j_iconst (v := 1) C dX12_tryBoth_49 (by decide) ?_
    refine j_iadd C dX12_tryBoth_50 ?_
    refine j_iload C dX12_tryBoth_51 rfl ?_
    obtain ⟨p9, hP⟩ := hP
    refine j_callV C (MX12_tryLast 1 (x2 + 1) (h 0 24) h p9) dX12_tryBoth_53 (CKX12_tryLast (by decide)) ⟨rfl, rfl⟩ lk_RX12_365 in_X12_tryLast se_X12_tryLast (by decide) rfl rfl rfl (Nat.le_of_ble_eq_true rfl) ?_
    intro r S' h' hq
    obtain ⟨e1, e2, e3, hb11⟩ := hq
    have e2 := e2.symm
    have e3 := e3.symm
    subst e1
    subst e2
    subst e3
    exact j_vl (tX12_tryBoth_56 C L2 LP2 hL2 L9 LP9 hL9 x1 x2 x3 ((FX12_tryLast 1 (x2 + 1) (h 0 24) h).1) ((FX12_tryLast 1 (x2 + 1) (h 0 24) h).2) hP hR) ⟨rfl, rfl, rfl, rfl, trivial⟩
def FX12_tryBoth_9 (L2 : Int32 → Int32 → ph_H → Int32 × ph_H) : Nat → Int32 → Int32 → Int32 → ph_H → Int32 × ph_H
  | 0, _, _, _, h => (0, h)
  | q + 1, x1, x2, x3, h => if 4 ≤ x3 then (L2 x1 (x2 + 1) h) else (FX12_tryBoth_37 L2 (FX12_tryBoth_9 L2 q) x1 x2 x3 ((FX12_tryRun (hs (hs (hs h 0 74 1) 42 (0 : Int32).toNatClampNeg x2) 43 (0 : Int32).toNatClampNeg x3)).1) ((FX12_tryRun (hs (hs (hs h 0 74 1) 42 (0 : Int32).toNatClampNeg x2) 43 (0 : Int32).toNatClampNeg x3)).2))
def PX12_tryBoth_9 (LP2 : Int32 → Int32 → ph_H → Prop) : Nat → Int32 → Int32 → Int32 → ph_H → Prop
  | 0, _, _, _, _ => False
  | q + 1, x1, x2, x3, h => (4 ≤ x3 → (LP2 x1 (x2 + 1) h)) ∧ (¬ 4 ≤ x3 → (vp_in 0 2 ∧ (vp_in 0 2 ∧ ((PX12_tryRun (hs (hs (hs h 0 74 1) 42 (0 : Int32).toNatClampNeg x2) 43 (0 : Int32).toNatClampNeg x3)) ∧ (PX12_tryBoth_37 LP2 (PX12_tryBoth_9 LP2 q) x1 x2 x3 ((FX12_tryRun (hs (hs (hs h 0 74 1) 42 (0 : Int32).toNatClampNeg x2) 43 (0 : Int32).toNatClampNeg x3)).1) ((FX12_tryRun (hs (hs (hs h 0 74 1) 42 (0 : Int32).toNatClampNeg x2) 43 (0 : Int32).toNatClampNeg x3)).2))))))
set_option maxRecDepth 100000 in
set_option maxHeartbeats 4000000 in
theorem tX12_tryBoth_9 {X : fj_X} {Y : fj_Y} {l0 : Launch} {ad : Nat → Nat} (C : FC X Y l0 cX12_tryBoth 5 RX12 ({ frames := 6, cells := 0, slots := 0, locals := 147 } : Room) 0 0 (some .boolean)) (L2 : Int32 → Int32 → ph_H → Int32 × ph_H) (LP2 : Int32 → Int32 → ph_H → Prop) (hL2 : ∀ (x1 : Int32) (x2 : Int32) (h : ph_H), LP2 x1 x2 h → RETz X Y ad 50 SM cX12_tryBoth (L2 x1 x2 h) → FJ X Y ad 50 SM h 2 [(0, .ref (ad 0)), (1, .int x1), (2, .int x2)] []) : ∀ (q : Nat) (x1 : Int32) (x2 : Int32) (x3 : Int32) (h : ph_H), PX12_tryBoth_9 LP2 q x1 x2 x3 h → RETz X Y ad 50 SM cX12_tryBoth (FX12_tryBoth_9 L2 q x1 x2 x3 h) → FJ X Y ad 50 SM h 9 [(0, .ref (ad 0)), (1, .int x1), (2, .int x2), (3, .int x3)] [] := by
  intro q
  induction q with
  | zero =>
    intro x1 x2 x3 h hP hR
    exact absurd hP id
  | succ q ih =>
    intro x1 x2 x3 h hP hR
    unfold PX12_tryBoth_9 at hP
    unfold FX12_tryBoth_9 at hR
    refine j_iload_n C dX12_tryBoth_9 rfl rfl ?_
    refine j_iconst (v := 4) C dX12_tryBoth_10 (by decide) ?_
    refine j_icmp_ge (tgt := 67) C dX12_tryBoth_11 (by decide) (fun c0 => ?_) (fun c0 => ?_)
    · have hP := hP.1 c0
      rw [if_pos c0] at hR
      refine j_iinc (v := (x2 + 1)) C dX12_tryBoth_67 rfl rfl (by decide) rfl ?_
      refine j_goto (tgt := 2) C dX12_tryBoth_70 (by decide) ?_
      exact j_vl (hL2 x1 (x2 + 1) h hP hR) ⟨rfl, rfl, rfl, trivial⟩
    · have hP := hP.2 c0
      rw [if_neg c0] at hR
      refine j_aload_n C dX12_tryBoth_14 rfl rfl ?_
      refine j_iconst (v := 1) C dX12_tryBoth_15 (by decide) ?_
      refine pM_340 C dX12_tryBoth_16 ?_
      refine j_aload_n C dX12_tryBoth_19 rfl rfl ?_
      refine gM_140 C dX12_tryBoth_20 ?_
      refine j_iconst (v := 0) C dX12_tryBoth_23 (by decide) ?_
      refine j_iload_n C dX12_tryBoth_24 rfl rfl ?_
      obtain ⟨p7, hP⟩ := hP
      refine j_iast (k := 42) C dX12_tryBoth_25 (by decide) rfl p7 ?_
      refine j_aload_n C dX12_tryBoth_26 rfl rfl ?_
      refine gM_143 C dX12_tryBoth_27 ?_
      refine j_iconst (v := 0) C dX12_tryBoth_30 (by decide) ?_
      refine j_iload_n C dX12_tryBoth_31 rfl rfl ?_
      obtain ⟨p13, hP⟩ := hP
      refine j_iast (k := 43) C dX12_tryBoth_32 (by decide) rfl p13 ?_
      refine j_aload_n C dX12_tryBoth_33 rfl rfl ?_
      obtain ⟨p16, hP⟩ := hP
      refine j_callV C (MX12_tryRun (hs (hs (hs h 0 74 1) 42 (0 : Int32).toNatClampNeg x2) 43 (0 : Int32).toNatClampNeg x3) p16) dX12_tryBoth_34 (CKX12_tryRun (by decide)) ⟨rfl, rfl⟩ lk_RX12_358 in_X12_tryRun se_X12_tryRun (by decide) rfl rfl rfl (Nat.le_of_ble_eq_true rfl) ?_
      intro r S' h' hq
      obtain ⟨e1, e2, e3, hb18⟩ := hq
      have e2 := e2.symm
      have e3 := e3.symm
      subst e1
      subst e2
      subst e3
      exact j_vl (tX12_tryBoth_37 C L2 LP2 hL2 (FX12_tryBoth_9 L2 q) (PX12_tryBoth_9 LP2 q) (ih) x1 x2 x3 ((FX12_tryRun (hs (hs (hs h 0 74 1) 42 (0 : Int32).toNatClampNeg x2) 43 (0 : Int32).toNatClampNeg x3)).1) ((FX12_tryRun (hs (hs (hs h 0 74 1) 42 (0 : Int32).toNatClampNeg x2) 43 (0 : Int32).toNatClampNeg x3)).2) hP hR) ⟨rfl, rfl, rfl, rfl, trivial⟩
def FX12_tryBoth_2  : Nat → Int32 → Int32 → ph_H → Int32 × ph_H
  | 0, _, _, h => (0, h)
  | q + 1, x1, x2, h => if x1 ≤ x2 then ((0, h)) else (FX12_tryBoth_9 (FX12_tryBoth_2  q) 2000 x1 x2 0 h)
def PX12_tryBoth_2  : Nat → Int32 → Int32 → ph_H → Prop
  | 0, _, _, _ => False
  | q + 1, x1, x2, h => (x1 ≤ x2 → (True)) ∧ (¬ x1 ≤ x2 → (PX12_tryBoth_9 (PX12_tryBoth_2  q) 2000 x1 x2 0 h))
set_option maxRecDepth 100000 in
set_option maxHeartbeats 4000000 in
theorem tX12_tryBoth_2 {X : fj_X} {Y : fj_Y} {l0 : Launch} {ad : Nat → Nat} (C : FC X Y l0 cX12_tryBoth 5 RX12 ({ frames := 6, cells := 0, slots := 0, locals := 147 } : Room) 0 0 (some .boolean)) : ∀ (q : Nat) (x1 : Int32) (x2 : Int32) (h : ph_H), PX12_tryBoth_2  q x1 x2 h → RETz X Y ad 50 SM cX12_tryBoth (FX12_tryBoth_2  q x1 x2 h) → FJ X Y ad 50 SM h 2 [(0, .ref (ad 0)), (1, .int x1), (2, .int x2)] [] := by
  intro q
  induction q with
  | zero =>
    intro x1 x2 h hP hR
    exact absurd hP id
  | succ q ih =>
    intro x1 x2 h hP hR
    unfold PX12_tryBoth_2 at hP
    unfold FX12_tryBoth_2 at hR
    refine j_iload_n C dX12_tryBoth_2 rfl rfl ?_
    refine j_iload_n C dX12_tryBoth_3 rfl rfl ?_
    refine j_icmp_ge (tgt := 73) C dX12_tryBoth_4 (by decide) (fun c0 => ?_) (fun c0 => ?_)
    · have hP := hP.1 c0
      rw [if_pos c0] at hR
      refine j_iconst (v := 0) C dX12_tryBoth_73 (by decide) ?_
      exact hR bo_0 _ _ dX12_tryBoth_74
    · have hP := hP.2 c0
      rw [if_neg c0] at hR
      refine j_iconst (v := 0) C dX12_tryBoth_7 (by decide) ?_
      refine j_istore_n C dX12_tryBoth_8 rfl (by decide) rfl ?_
      exact j_vl (tX12_tryBoth_9 C (FX12_tryBoth_2  q) (PX12_tryBoth_2  q) (ih) 2000 x1 x2 0 h hP hR) ⟨rfl, rfl, rfl, rfl, trivial⟩
def FX12_tryBoth (a0 : Int32) (h : ph_H) : Int32 × ph_H := FX12_tryBoth_2 2000 a0 1 h
def PX12_tryBoth (a0 : Int32) (h : ph_H) : Prop := PX12_tryBoth_2 2000 a0 1 h
set_option maxRecDepth 100000 in
set_option maxHeartbeats 4000000 in
theorem tX12_tryBoth {X : fj_X} {Y : fj_Y} {l0 : Launch} {ad : Nat → Nat} (C : FC X Y l0 cX12_tryBoth 5 RX12 ({ frames := 6, cells := 0, slots := 0, locals := 147 } : Room) 0 0 (some .boolean)) (a0 : Int32) (h : ph_H) (hP : PX12_tryBoth a0 h) (hR : RETz X Y ad 50 SM cX12_tryBoth (FX12_tryBoth a0 h)) : FJ X Y ad 50 SM h 0 [(0, .ref (ad 0)), (1, .int a0)] [] := by
  unfold PX12_tryBoth at hP
  unfold FX12_tryBoth at hR
  refine j_iconst (v := 1) C dX12_tryBoth_0 (by decide) ?_
  refine j_istore_n C dX12_tryBoth_1 rfl (by decide) rfl ?_
  exact j_vl (tX12_tryBoth_2 C 2000 a0 1 h hP hR) ⟨rfl, rfl, rfl, trivial⟩
theorem MX12_tryBoth {l0 : Launch} {Y : fj_Y} {ad : Nat → Nat} (a0 : Int32) (h : ph_H) (hP : PX12_tryBoth a0 h) : MI l0 yX12_tryBoth cX12_tryBoth 5 (some .boolean) ({ frames := 6, cells := 0, slots := 0, locals := 147 } : Room) Y ad 50 SM h [.ref (ad 0), .int a0] (fun r S' h' => S' = SM ∧ h' = (FX12_tryBoth a0 h).2 ∧ r = (FX12_tryBoth a0 h).1 ∧ bo r) := met_i (by decide) (Nat.le_of_ble_eq_true rfl) (fun _ _ _ q => bo_n q.2.2.2) (fun X C K => j_vl (tX12_tryBoth C a0 h hP (fun b pc lv hd => K _ _ _ ⟨rfl, rfl, rfl, b⟩ pc lv hd)) ⟨rfl, rfl, trivial⟩)

-- X12_find
def FX12_find_119  (h : ph_H) : Int32 × ph_H := ((h 0 69), h)
def PX12_find_119  (h : ph_H) : Prop := True
set_option maxRecDepth 100000 in
set_option maxHeartbeats 4000000 in
theorem tX12_find_119 {X : fj_X} {Y : fj_Y} {l0 : Launch} {ad : Nat → Nat} (C : FC X Y l0 cX12_find 6 RX12 ({ frames := 7, cells := 0, slots := 0, locals := 171 } : Room) 0 0 (some .int)) (h : ph_H) (hP : PX12_find_119  h) (hR : RETi X Y ad 50 SM cX12_find (FX12_find_119  h)) : FJ X Y ad 50 SM h 119 [(0, .ref (ad 0))] [] := by
  unfold PX12_find_119 at hP
  unfold FX12_find_119 at hR
  refine j_iconst (v := 1) C dX12_find_119 (by decide) ?_
  refine j_goto (tgt := 124) C dX12_find_120 (by decide) ?_
  refine j_istore C dX12_find_124 (by decide) rfl ?_
  refine j_aload_n C dX12_find_126 rfl rfl ?_
  refine gM_346 (v := (h 0 69)) C dX12_find_127 rfl ?_
  exact hR _ _ dX12_find_130
def FX12_find_116  (s0 : Int32) (h : ph_H) : Int32 × ph_H := if s0 = 0 then (((h 0 69), h)) else (FX12_find_119  h)
def PX12_find_116  (s0 : Int32) (h : ph_H) : Prop := (s0 = 0 → (True)) ∧ (¬ s0 = 0 → (PX12_find_119  h))
set_option maxRecDepth 100000 in
set_option maxHeartbeats 4000000 in
theorem tX12_find_116 {X : fj_X} {Y : fj_Y} {l0 : Launch} {ad : Nat → Nat} (C : FC X Y l0 cX12_find 6 RX12 ({ frames := 7, cells := 0, slots := 0, locals := 171 } : Room) 0 0 (some .int)) (s0 : Int32) (h : ph_H) (hP : PX12_find_116  s0 h) (hR : RETi X Y ad 50 SM cX12_find (FX12_find_116  s0 h)) : FJ X Y ad 50 SM h 116 [(0, .ref (ad 0))] [.int s0] := by
  unfold PX12_find_116 at hP
  unfold FX12_find_116 at hR
  refine j_if_eq (tgt := 123) C dX12_find_116 (by decide) (fun c0 => ?_) (fun c0 => ?_)
  · have hP := hP.1 c0
    rw [if_pos c0] at hR
    refine j_iconst (v := 0) C dX12_find_123 (by decide) ?_
    refine j_istore C dX12_find_124 (by decide) rfl ?_
    refine j_aload_n C dX12_find_126 rfl rfl ?_
    refine gM_346 (v := (h 0 69)) C dX12_find_127 rfl ?_
    exact hR _ _ dX12_find_130
  · have hP := hP.2 c0
    rw [if_neg c0] at hR
    exact j_vl (tX12_find_119 C  h hP hR) ⟨rfl, trivial⟩
def FX12_find_98  (x1 : Int32) (x4 : Int32) (s0 : Int32) (h : ph_H) : Int32 × ph_H := if s0 = 0 then (if x1 = 1 then (FX12_find_119  h) else (FX12_find_116  ((FX12_tryBoth x4 h).1) ((FX12_tryBoth x4 h).2))) else (FX12_find_119  h)
def PX12_find_98  (x1 : Int32) (x4 : Int32) (s0 : Int32) (h : ph_H) : Prop := (s0 = 0 → ((x1 = 1 → (PX12_find_119  h)) ∧ (¬ x1 = 1 → ((PX12_tryBoth x4 h) ∧ (PX12_find_116  ((FX12_tryBoth x4 h).1) ((FX12_tryBoth x4 h).2)))))) ∧ (¬ s0 = 0 → (PX12_find_119  h))
set_option maxRecDepth 100000 in
set_option maxHeartbeats 4000000 in
theorem tX12_find_98 {X : fj_X} {Y : fj_Y} {l0 : Launch} {ad : Nat → Nat} (C : FC X Y l0 cX12_find 6 RX12 ({ frames := 7, cells := 0, slots := 0, locals := 171 } : Room) 0 0 (some .int)) (x1 : Int32) (x4 : Int32) (s0 : Int32) (h : ph_H) (hP : PX12_find_98  x1 x4 s0 h) (hR : RETi X Y ad 50 SM cX12_find (FX12_find_98  x1 x4 s0 h)) : FJ X Y ad 50 SM h 98 [(0, .ref (ad 0)), (1, .int x1), (4, .int x4)] [.int s0] := by
  unfold PX12_find_98 at hP
  unfold FX12_find_98 at hR
  refine j_istore C dX12_find_98 (by decide) rfl ?_
  refine j_iload C dX12_find_100 rfl ?_
  refine j_if_ne (tgt := 119) C dX12_find_102 (by decide) (fun c0 => ?_) (fun c0 => ?_)
  · have hP := hP.2 c0
    rw [if_neg c0] at hR
    exact j_vl (tX12_find_119 C  h hP hR) ⟨rfl, trivial⟩
  · have hP := hP.1 c0
    rw [if_pos c0] at hR
    refine j_iload_n C dX12_find_105 rfl rfl ?_
    refine j_iconst (v := 1) C dX12_find_106 (by decide) ?_
    refine j_icmp_eq (tgt := 119) C dX12_find_107 (by decide) (fun c1 => ?_) (fun c1 => ?_)
    · have hP := hP.1 c1
      rw [if_pos c1] at hR
      exact j_vl (tX12_find_119 C  h hP hR) ⟨rfl, trivial⟩
    · have hP := hP.2 c1
      rw [if_neg c1] at hR
      refine j_aload_n C dX12_find_110 rfl rfl ?_
      refine j_iload C dX12_find_111 rfl ?_
      obtain ⟨p2, hP⟩ := hP
      refine j_callV C (MX12_tryBoth x4 h p2) dX12_find_113 (CKX12_tryBoth (by decide)) ⟨rfl, rfl⟩ lk_RX12_369 in_X12_tryBoth se_X12_tryBoth (by decide) rfl rfl rfl (Nat.le_of_ble_eq_true rfl) ?_
      intro r S' h' hq
      obtain ⟨e1, e2, e3, hb4⟩ := hq
      have e2 := e2.symm
      have e3 := e3.symm
      subst e1
      subst e2
      subst e3
      exact j_vl (tX12_find_116 C  ((FX12_tryBoth x4 h).1) ((FX12_tryBoth x4 h).2) hP hR) ⟨rfl, trivial⟩
def FX12_find_93  (x1 : Int32) (x4 : Int32) (h : ph_H) : Int32 × ph_H := FX12_find_98  x1 x4 1 h
def PX12_find_93  (x1 : Int32) (x4 : Int32) (h : ph_H) : Prop := PX12_find_98  x1 x4 1 h
set_option maxRecDepth 100000 in
set_option maxHeartbeats 4000000 in
theorem tX12_find_93 {X : fj_X} {Y : fj_Y} {l0 : Launch} {ad : Nat → Nat} (C : FC X Y l0 cX12_find 6 RX12 ({ frames := 7, cells := 0, slots := 0, locals := 171 } : Room) 0 0 (some .int)) (x1 : Int32) (x4 : Int32) (h : ph_H) (hP : PX12_find_93  x1 x4 h) (hR : RETi X Y ad 50 SM cX12_find (FX12_find_93  x1 x4 h)) : FJ X Y ad 50 SM h 93 [(0, .ref (ad 0)), (1, .int x1), (4, .int x4)] [] := by
  unfold PX12_find_93 at hP
  unfold FX12_find_93 at hR
  refine j_iconst (v := 1) C dX12_find_93 (by decide) ?_
  refine j_goto (tgt := 98) C dX12_find_94 (by decide) ?_
  exact j_vl (tX12_find_98 C  x1 x4 1 h hP hR) ⟨rfl, rfl, rfl, trivial⟩
def FX12_find_90  (x1 : Int32) (x4 : Int32) (s0 : Int32) (h : ph_H) : Int32 × ph_H := if s0 = 0 then (FX12_find_98  x1 x4 0 h) else (FX12_find_93  x1 x4 h)
def PX12_find_90  (x1 : Int32) (x4 : Int32) (s0 : Int32) (h : ph_H) : Prop := (s0 = 0 → (PX12_find_98  x1 x4 0 h)) ∧ (¬ s0 = 0 → (PX12_find_93  x1 x4 h))
set_option maxRecDepth 100000 in
set_option maxHeartbeats 4000000 in
theorem tX12_find_90 {X : fj_X} {Y : fj_Y} {l0 : Launch} {ad : Nat → Nat} (C : FC X Y l0 cX12_find 6 RX12 ({ frames := 7, cells := 0, slots := 0, locals := 171 } : Room) 0 0 (some .int)) (x1 : Int32) (x4 : Int32) (s0 : Int32) (h : ph_H) (hP : PX12_find_90  x1 x4 s0 h) (hR : RETi X Y ad 50 SM cX12_find (FX12_find_90  x1 x4 s0 h)) : FJ X Y ad 50 SM h 90 [(0, .ref (ad 0)), (1, .int x1), (4, .int x4)] [.int s0] := by
  unfold PX12_find_90 at hP
  unfold FX12_find_90 at hR
  refine j_if_eq (tgt := 97) C dX12_find_90 (by decide) (fun c0 => ?_) (fun c0 => ?_)
  · have hP := hP.1 c0
    rw [if_pos c0] at hR
    refine j_iconst (v := 0) C dX12_find_97 (by decide) ?_
    exact j_vl (tX12_find_98 C  x1 x4 0 h hP hR) ⟨rfl, rfl, rfl, trivial⟩
  · have hP := hP.2 c0
    rw [if_neg c0] at hR
    exact j_vl (tX12_find_93 C  x1 x4 h hP hR) ⟨rfl, rfl, rfl, trivial⟩
def FX12_find_71  (x1 : Int32) (x4 : Int32) (s0 : Int32) (h : ph_H) : Int32 × ph_H := if s0 = 0 then (if x1 = 0 then (FX12_find_93  x1 x4 h) else (FX12_find_90  x1 x4 ((FX12_tryLast 0 1 x4 h).1) ((FX12_tryLast 0 1 x4 h).2))) else (FX12_find_93  x1 x4 h)
def PX12_find_71  (x1 : Int32) (x4 : Int32) (s0 : Int32) (h : ph_H) : Prop := (s0 = 0 → ((x1 = 0 → (PX12_find_93  x1 x4 h)) ∧ (¬ x1 = 0 → ((PX12_tryLast 0 1 x4 h) ∧ (PX12_find_90  x1 x4 ((FX12_tryLast 0 1 x4 h).1) ((FX12_tryLast 0 1 x4 h).2)))))) ∧ (¬ s0 = 0 → (PX12_find_93  x1 x4 h))
set_option maxRecDepth 100000 in
set_option maxHeartbeats 4000000 in
theorem tX12_find_71 {X : fj_X} {Y : fj_Y} {l0 : Launch} {ad : Nat → Nat} (C : FC X Y l0 cX12_find 6 RX12 ({ frames := 7, cells := 0, slots := 0, locals := 171 } : Room) 0 0 (some .int)) (x1 : Int32) (x4 : Int32) (s0 : Int32) (h : ph_H) (hP : PX12_find_71  x1 x4 s0 h) (hR : RETi X Y ad 50 SM cX12_find (FX12_find_71  x1 x4 s0 h)) : FJ X Y ad 50 SM h 71 [(0, .ref (ad 0)), (1, .int x1), (4, .int x4)] [.int s0] := by
  unfold PX12_find_71 at hP
  unfold FX12_find_71 at hR
  refine j_istore C dX12_find_71 (by decide) rfl ?_
  refine j_iload C dX12_find_73 rfl ?_
  refine j_if_ne (tgt := 93) C dX12_find_75 (by decide) (fun c0 => ?_) (fun c0 => ?_)
  · have hP := hP.2 c0
    rw [if_neg c0] at hR
    exact j_vl (tX12_find_93 C  x1 x4 h hP hR) ⟨rfl, rfl, rfl, trivial⟩
  · have hP := hP.1 c0
    rw [if_pos c0] at hR
    refine j_iload_n C dX12_find_78 rfl rfl ?_
    refine j_if_eq (tgt := 93) C dX12_find_79 (by decide) (fun c1 => ?_) (fun c1 => ?_)
    · have hP := hP.1 c1
      rw [if_pos c1] at hR
      exact j_vl (tX12_find_93 C  x1 x4 h hP hR) ⟨rfl, rfl, rfl, trivial⟩
    · have hP := hP.2 c1
      rw [if_neg c1] at hR
      refine j_aload_n C dX12_find_82 rfl rfl ?_
      refine j_iconst (v := 0) C dX12_find_83 (by decide) ?_
      refine j_iconst (v := 1) C dX12_find_84 (by decide) ?_
      refine j_iload C dX12_find_85 rfl ?_
      obtain ⟨p4, hP⟩ := hP
      refine j_callV C (MX12_tryLast 0 1 x4 h p4) dX12_find_87 (CKX12_tryLast (by decide)) ⟨rfl, rfl⟩ lk_RX12_365 in_X12_tryLast se_X12_tryLast (by decide) rfl rfl rfl (Nat.le_of_ble_eq_true rfl) ?_
      intro r S' h' hq
      obtain ⟨e1, e2, e3, hb6⟩ := hq
      have e2 := e2.symm
      have e3 := e3.symm
      subst e1
      subst e2
      subst e3
      exact j_vl (tX12_find_90 C  x1 x4 ((FX12_tryLast 0 1 x4 h).1) ((FX12_tryLast 0 1 x4 h).2) hP hR) ⟨rfl, rfl, rfl, trivial⟩
def FX12_find_60  (x1 : Int32) (s0 : Int32) (h : ph_H) : Int32 × ph_H := FX12_find_71  x1 (h 0 24) ((FX12_isOver h).1) ((FX12_isOver h).2)
def PX12_find_60  (x1 : Int32) (s0 : Int32) (h : ph_H) : Prop := (PX12_isOver h) ∧ (PX12_find_71  x1 (h 0 24) ((FX12_isOver h).1) ((FX12_isOver h).2))
set_option maxRecDepth 100000 in
set_option maxHeartbeats 4000000 in
theorem tX12_find_60 {X : fj_X} {Y : fj_Y} {l0 : Launch} {ad : Nat → Nat} (C : FC X Y l0 cX12_find 6 RX12 ({ frames := 7, cells := 0, slots := 0, locals := 171 } : Room) 0 0 (some .int)) (x1 : Int32) (s0 : Int32) (h : ph_H) (hP : PX12_find_60  x1 s0 h) (hR : RETi X Y ad 50 SM cX12_find (FX12_find_60  x1 s0 h)) : FJ X Y ad 50 SM h 60 [(0, .ref (ad 0)), (1, .int x1)] [.int s0] := by
  unfold PX12_find_60 at hP
  unfold FX12_find_60 at hR
  refine j_istore_n C dX12_find_60 rfl (by decide) rfl ?_
  refine j_aload_n C dX12_find_61 rfl rfl ?_
  refine gM_191 (v := (h 0 24)) C dX12_find_62 rfl ?_
  refine j_istore C dX12_find_65 (by decide) rfl ?_
  refine j_aload_n C dX12_find_67 rfl rfl ?_
  obtain ⟨p5, hP⟩ := hP
  refine j_callV C (MX12_isOver h p5) dX12_find_68 (CKX12_isOver (by decide)) ⟨rfl, rfl⟩ lk_RX12_362 in_X12_isOver se_X12_isOver (by decide) rfl rfl rfl (Nat.le_of_ble_eq_true rfl) ?_
  intro r S' h' hq
  obtain ⟨e1, e2, e3, hb7⟩ := hq
  have e2 := e2.symm
  have e3 := e3.symm
  subst e1
  subst e2
  subst e3
  exact j_vl (tX12_find_71 C  x1 (h 0 24) ((FX12_isOver h).1) ((FX12_isOver h).2) hP hR) ⟨rfl, rfl, rfl, trivial⟩
def FX12_find (a0 : Int32) (a1 : Int32) (h : ph_H) : Int32 × ph_H := if (FX12_isIn a0.toInt64 0 2) = 0 then (((-1), (hs h 0 0 0))) else (if (FX12_isIn a1.toInt64 1 100) = 0 then (((-1), (hs h 0 0 0))) else (FX12_find_60  a0 ((FX12_tryRun (hs (hs (hs (hs (hs (hs h 0 0 0) 0 33 0) 0 67 0) 0 68 a1) 0 69 0) 0 74 0)).1) ((FX12_tryRun (hs (hs (hs (hs (hs (hs h 0 0 0) 0 33 0) 0 67 0) 0 68 a1) 0 69 0) 0 74 0)).2)))
def PX12_find (a0 : Int32) (a1 : Int32) (h : ph_H) : Prop := (PX12_isIn a0.toInt64 0 2) ∧ (((FX12_isIn a0.toInt64 0 2) = 0 → (True)) ∧ (¬ (FX12_isIn a0.toInt64 0 2) = 0 → ((PX12_isIn a1.toInt64 1 100) ∧ (((FX12_isIn a1.toInt64 1 100) = 0 → (True)) ∧ (¬ (FX12_isIn a1.toInt64 1 100) = 0 → ((PX12_tryRun (hs (hs (hs (hs (hs (hs h 0 0 0) 0 33 0) 0 67 0) 0 68 a1) 0 69 0) 0 74 0)) ∧ (PX12_find_60  a0 ((FX12_tryRun (hs (hs (hs (hs (hs (hs h 0 0 0) 0 33 0) 0 67 0) 0 68 a1) 0 69 0) 0 74 0)).1) ((FX12_tryRun (hs (hs (hs (hs (hs (hs h 0 0 0) 0 33 0) 0 67 0) 0 68 a1) 0 69 0) 0 74 0)).2))))))))
set_option maxRecDepth 100000 in
set_option maxHeartbeats 4000000 in
theorem tX12_find {X : fj_X} {Y : fj_Y} {l0 : Launch} {ad : Nat → Nat} (C : FC X Y l0 cX12_find 6 RX12 ({ frames := 7, cells := 0, slots := 0, locals := 171 } : Room) 0 0 (some .int)) (a0 : Int32) (a1 : Int32) (h : ph_H) (hP : PX12_find a0 a1 h) (hR : RETi X Y ad 50 SM cX12_find (FX12_find a0 a1 h)) : FJ X Y ad 50 SM h 0 [(0, .ref (ad 0)), (1, .int a0), (2, .int a1)] [] := by
  unfold PX12_find at hP
  unfold FX12_find at hR
  refine j_aload_n C dX12_find_0 rfl rfl ?_
  refine j_iconst (v := 0) C dX12_find_1 (by decide) ?_
  refine pM_164 C dX12_find_2 ?_
  refine j_iload_n C dX12_find_5 rfl rfl ?_
  refine j_i2l C dX12_find_6 ?_
  refine j_lconst (v := 0) C dX12_find_7 (by decide) ?_
  refine j_ldc2 (v := 2) C dX12_find_8 kl_RX12_325 ?_
  obtain ⟨p7, hP⟩ := hP
  refine j_callS C (MX12_isIn a0.toInt64 0 2 (hs h 0 0 0) p7) dX12_find_11 (CKX12_isIn (by decide)) ⟨rfl, rfl⟩ lk_RX12_169 st_X12_isIn rfl (Nat.le_of_ble_eq_true rfl) ?_
  intro r S' h' hq
  obtain ⟨e1, hh, e3, hb9⟩ := hq
  have e3 := e3.symm
  subst e1
  subst e3
  rw [hh]
  refine j_if_eq (tgt := 29) C dX12_find_14 (by decide) (fun c0 => ?_) (fun c0 => ?_)
  · have hP := hP.1 c0
    rw [if_pos c0] at hR
    refine j_iconst (v := (-1)) C dX12_find_29 (by decide) ?_
    exact hR _ _ dX12_find_30
  · have hP := hP.2 c0
    rw [if_neg c0] at hR
    refine j_iload_n C dX12_find_17 rfl rfl ?_
    refine j_i2l C dX12_find_18 ?_
    refine j_lconst (v := 1) C dX12_find_19 (by decide) ?_
    refine j_ldc2 (v := 100) C dX12_find_20 kl_RX12_180 ?_
    obtain ⟨p4, hP⟩ := hP
    refine j_callS C (MX12_isIn a1.toInt64 1 100 (hs h 0 0 0) p4) dX12_find_23 (CKX12_isIn (by decide)) ⟨rfl, rfl⟩ lk_RX12_169 st_X12_isIn rfl (Nat.le_of_ble_eq_true rfl) ?_
    intro r S' h' hq
    obtain ⟨e1, hh, e3, hb6⟩ := hq
    have e3 := e3.symm
    subst e1
    subst e3
    rw [hh]
    refine j_if_ne (tgt := 31) C dX12_find_26 (by decide) (fun c1 => ?_) (fun c1 => ?_)
    · have hP := hP.2 c1
      rw [if_neg c1] at hR
      refine j_aload_n C dX12_find_31 rfl rfl ?_
      refine j_iconst (v := 0) C dX12_find_32 (by decide) ?_
      refine pM_218 C dX12_find_33 bo_0 ?_
      refine j_aload_n C dX12_find_36 rfl rfl ?_
      refine j_iconst (v := 0) C dX12_find_37 (by decide) ?_
      refine pM_343 C dX12_find_38 ?_
      refine j_aload_n C dX12_find_41 rfl rfl ?_
      refine j_iload_n C dX12_find_42 rfl rfl ?_
      refine pM_355 C dX12_find_43 ?_
      refine j_aload_n C dX12_find_46 rfl rfl ?_
      refine j_iconst (v := 0) C dX12_find_47 (by decide) ?_
      refine pM_346 C dX12_find_48 ?_
      refine j_aload_n C dX12_find_51 rfl rfl ?_
      refine j_iconst (v := 0) C dX12_find_52 (by decide) ?_
      refine pM_340 C dX12_find_53 ?_
      refine j_aload_n C dX12_find_56 rfl rfl ?_
      obtain ⟨p16, hP⟩ := hP
      refine j_callV C (MX12_tryRun (hs (hs (hs (hs (hs (hs h 0 0 0) 0 33 0) 0 67 0) 0 68 a1) 0 69 0) 0 74 0) p16) dX12_find_57 (CKX12_tryRun (by decide)) ⟨rfl, rfl⟩ lk_RX12_358 in_X12_tryRun se_X12_tryRun (by decide) rfl rfl rfl (Nat.le_of_ble_eq_true rfl) ?_
      intro r S' h' hq
      obtain ⟨e1, e2, e3, hb18⟩ := hq
      have e2 := e2.symm
      have e3 := e3.symm
      subst e1
      subst e2
      subst e3
      exact j_vl (tX12_find_60 C  a0 ((FX12_tryRun (hs (hs (hs (hs (hs (hs h 0 0 0) 0 33 0) 0 67 0) 0 68 a1) 0 69 0) 0 74 0)).1) ((FX12_tryRun (hs (hs (hs (hs (hs (hs h 0 0 0) 0 33 0) 0 67 0) 0 68 a1) 0 69 0) 0 74 0)).2) hP hR) ⟨rfl, rfl, trivial⟩
    · have hP := hP.1 c1
      rw [if_pos c1] at hR
      refine j_iconst (v := (-1)) C dX12_find_29 (by decide) ?_
      exact hR _ _ dX12_find_30
theorem MX12_find {l0 : Launch} {Y : fj_Y} {ad : Nat → Nat} (a0 : Int32) (a1 : Int32) (h : ph_H) (hP : PX12_find a0 a1 h) : MI l0 yX12_find cX12_find 6 (some .int) ({ frames := 7, cells := 0, slots := 0, locals := 171 } : Room) Y ad 50 SM h [.ref (ad 0), .int a0, .int a1] (fun r S' h' => S' = SM ∧ h' = (FX12_find a0 a1 h).2 ∧ r = (FX12_find a0 a1 h).1) := met_i (by decide) (Nat.le_of_ble_eq_true rfl) (fun _ _ _ _ => rfl) (fun X C K => j_vl (tX12_find C a0 a1 h hP (fun pc lv hd => K _ _ _ ⟨rfl, rfl, rfl⟩ pc lv hd)) ⟨rfl, rfl, rfl, trivial⟩)

-- X12_found
def FX12_found_49  (x1 : Int32) (h : ph_H) : Int32 × ph_H := if x1 = 0 then (((h 0 70), h)) else (((h 0 73), h))
def PX12_found_49  (x1 : Int32) (h : ph_H) : Prop := (x1 = 0 → (True)) ∧ (¬ x1 = 0 → (True))
set_option maxRecDepth 100000 in
set_option maxHeartbeats 4000000 in
theorem tX12_found_49 {X : fj_X} {Y : fj_Y} {l0 : Launch} {ad : Nat → Nat} (C : FC X Y l0 cX12_found 3 RX12 ({ frames := 1, cells := 0, slots := 0, locals := 25 } : Room) 0 0 (some .int)) (x1 : Int32) (h : ph_H) (hP : PX12_found_49  x1 h) (hR : RETi X Y ad 50 SM cX12_found (FX12_found_49  x1 h)) : FJ X Y ad 50 SM h 49 [(0, .ref (ad 0)), (1, .int x1)] [] := by
  unfold PX12_found_49 at hP
  unfold FX12_found_49 at hR
  refine j_iload_n C dX12_found_49 rfl rfl ?_
  refine j_if_ne (tgt := 60) C dX12_found_50 (by decide) (fun c0 => ?_) (fun c0 => ?_)
  · have hP := hP.2 c0
    rw [if_neg c0] at hR
    refine j_aload_n C dX12_found_60 rfl rfl ?_
    refine gM_352 (v := (h 0 73)) C dX12_found_61 rfl ?_
    exact hR _ _ dX12_found_64
  · have hP := hP.1 c0
    rw [if_pos c0] at hR
    refine j_aload_n C dX12_found_53 rfl rfl ?_
    refine gM_349 (v := (h 0 70)) C dX12_found_54 rfl ?_
    refine j_goto (tgt := 64) C dX12_found_57 (by decide) ?_
    exact hR _ _ dX12_found_64
def FX12_found_75  (x1 : Int32) (s0 : Int32) (h : ph_H) : Int32 × ph_H := if s0 < (h 0 70) then (if (x1 - x1 / 2 * 2) = 1 then (((h 40 (s0.toNatClampNeg)), h)) else (((h 41 (s0.toNatClampNeg)), h))) else (((-2), h))
def PX12_found_75  (x1 : Int32) (s0 : Int32) (h : ph_H) : Prop := (s0 < (h 0 70) → (((x1 - x1 / 2 * 2) = 1 → (vp_in s0 2 ∧ (True))) ∧ (¬ (x1 - x1 / 2 * 2) = 1 → (vp_in s0 2 ∧ (True))))) ∧ (¬ s0 < (h 0 70) → (True))
set_option maxRecDepth 100000 in
set_option maxHeartbeats 4000000 in
theorem tX12_found_75 {X : fj_X} {Y : fj_Y} {l0 : Launch} {ad : Nat → Nat} (C : FC X Y l0 cX12_found 3 RX12 ({ frames := 1, cells := 0, slots := 0, locals := 25 } : Room) 0 0 (some .int)) (x1 : Int32) (s0 : Int32) (h : ph_H) (hP : PX12_found_75  x1 s0 h) (hR : RETi X Y ad 50 SM cX12_found (FX12_found_75  x1 s0 h)) : FJ X Y ad 50 SM h 75 [(0, .ref (ad 0)), (1, .int x1)] [.int s0] := by
  unfold PX12_found_75 at hP
  unfold FX12_found_75 at hR
  refine j_istore_n C dX12_found_75 rfl (by decide) rfl ?_
  refine j_iload_n C dX12_found_76 rfl rfl ?_
  refine j_aload_n C dX12_found_77 rfl rfl ?_
  refine gM_349 (v := (h 0 70)) C dX12_found_78 rfl ?_
  refine j_icmp_lt (tgt := 89) C dX12_found_81 (by decide) (fun c0 => ?_) (fun c0 => ?_)
  · have hP := hP.1 c0
    rw [if_pos c0] at hR
    refine j_iload_n C dX12_found_89 rfl rfl ?_
    refine j_iconst (v := 2) C dX12_found_90 (by decide) ?_
    refine j_irem C dX12_found_91 (by decide) ?_
    refine j_iconst (v := 1) C dX12_found_92 (by decide) ?_
    refine j_icmp_ne (tgt := 105) C dX12_found_93 (by decide) (fun c1 => ?_) (fun c1 => ?_)
    · have hP := hP.2 c1
      rw [if_neg c1] at hR
      refine j_aload_n C dX12_found_105 rfl rfl ?_
      refine gM_137 C dX12_found_106 ?_
      refine j_iload_n C dX12_found_109 rfl rfl ?_
      obtain ⟨p3, hP⟩ := hP
      refine j_iald (k := 41) (v := (h 41 (s0.toNatClampNeg))) C dX12_found_110 (by decide) rfl p3 rfl ?_
      exact hR _ _ dX12_found_111
    · have hP := hP.1 c1
      rw [if_pos c1] at hR
      refine j_aload_n C dX12_found_96 rfl rfl ?_
      refine gM_134 C dX12_found_97 ?_
      refine j_iload_n C dX12_found_100 rfl rfl ?_
      obtain ⟨p3, hP⟩ := hP
      refine j_iald (k := 40) (v := (h 40 (s0.toNatClampNeg))) C dX12_found_101 (by decide) rfl p3 rfl ?_
      refine j_goto (tgt := 111) C dX12_found_102 (by decide) ?_
      exact hR _ _ dX12_found_111
  · have hP := hP.2 c0
    rw [if_neg c0] at hR
    refine j_bipush (v := (-2)) C dX12_found_84 (by decide) ?_
    refine j_goto (tgt := 111) C dX12_found_86 (by decide) ?_
    exact hR _ _ dX12_found_111
def FX12_found (a0 : Int32) (h : ph_H) : Int32 × ph_H := if (FX12_isIn a0.toInt64 0 6) = 0 then (((-1), (hs h 0 0 0))) else (if a0 = 6 then (((h 0 67), (hs h 0 0 0))) else (if (h 0 69) = 0 then (((-2), (hs h 0 0 0))) else (if a0 = 0 then (FX12_found_49  a0 (hs h 0 0 0)) else (if a0 = 5 then (FX12_found_49  a0 (hs h 0 0 0)) else (if 3 ≤ a0 then (FX12_found_75  a0 1 (hs h 0 0 0)) else (FX12_found_75  a0 0 (hs h 0 0 0)))))))
def PX12_found (a0 : Int32) (h : ph_H) : Prop := (PX12_isIn a0.toInt64 0 6) ∧ (((FX12_isIn a0.toInt64 0 6) = 0 → (True)) ∧ (¬ (FX12_isIn a0.toInt64 0 6) = 0 → ((a0 = 6 → (True)) ∧ (¬ a0 = 6 → (((h 0 69) = 0 → (True)) ∧ (¬ (h 0 69) = 0 → ((a0 = 0 → (PX12_found_49  a0 (hs h 0 0 0))) ∧ (¬ a0 = 0 → ((a0 = 5 → (PX12_found_49  a0 (hs h 0 0 0))) ∧ (¬ a0 = 5 → ((3 ≤ a0 → (PX12_found_75  a0 1 (hs h 0 0 0))) ∧ (¬ 3 ≤ a0 → (PX12_found_75  a0 0 (hs h 0 0 0))))))))))))))
set_option maxRecDepth 100000 in
set_option maxHeartbeats 4000000 in
theorem tX12_found {X : fj_X} {Y : fj_Y} {l0 : Launch} {ad : Nat → Nat} (C : FC X Y l0 cX12_found 3 RX12 ({ frames := 1, cells := 0, slots := 0, locals := 25 } : Room) 0 0 (some .int)) (a0 : Int32) (h : ph_H) (hP : PX12_found a0 h) (hR : RETi X Y ad 50 SM cX12_found (FX12_found a0 h)) : FJ X Y ad 50 SM h 0 [(0, .ref (ad 0)), (1, .int a0)] [] := by
  unfold PX12_found at hP
  unfold FX12_found at hR
  refine j_aload_n C dX12_found_0 rfl rfl ?_
  refine j_iconst (v := 0) C dX12_found_1 (by decide) ?_
  refine pM_164 C dX12_found_2 ?_
  refine j_iload_n C dX12_found_5 rfl rfl ?_
  refine j_i2l C dX12_found_6 ?_
  refine j_lconst (v := 0) C dX12_found_7 (by decide) ?_
  refine j_ldc2 (v := 6) C dX12_found_8 kl_RX12_372 ?_
  obtain ⟨p7, hP⟩ := hP
  refine j_callS C (MX12_isIn a0.toInt64 0 6 (hs h 0 0 0) p7) dX12_found_11 (CKX12_isIn (by decide)) ⟨rfl, rfl⟩ lk_RX12_169 st_X12_isIn rfl (Nat.le_of_ble_eq_true rfl) ?_
  intro r S' h' hq
  obtain ⟨e1, hh, e3, hb9⟩ := hq
  have e3 := e3.symm
  subst e1
  subst e3
  rw [hh]
  refine j_if_ne (tgt := 19) C dX12_found_14 (by decide) (fun c0 => ?_) (fun c0 => ?_)
  · have hP := hP.2 c0
    rw [if_neg c0] at hR
    refine j_iload_n C dX12_found_19 rfl rfl ?_
    refine j_bipush (v := 6) C dX12_found_20 (by decide) ?_
    refine j_icmp_ne (tgt := 30) C dX12_found_22 (by decide) (fun c1 => ?_) (fun c1 => ?_)
    · have hP := hP.2 c1
      rw [if_neg c1] at hR
      refine j_aload_n C dX12_found_30 rfl rfl ?_
      refine gM_346 (v := (h 0 69)) C dX12_found_31 (hz_i (by decide)) ?_
      refine j_if_ne (tgt := 40) C dX12_found_34 (by decide) (fun c2 => ?_) (fun c2 => ?_)
      · have hP := hP.2 c2
        rw [if_neg c2] at hR
        refine j_iload_n C dX12_found_40 rfl rfl ?_
        refine j_if_eq (tgt := 49) C dX12_found_41 (by decide) (fun c3 => ?_) (fun c3 => ?_)
        · have hP := hP.1 c3
          rw [if_pos c3] at hR
          exact j_vl (tX12_found_49 C  a0 (hs h 0 0 0) hP hR) ⟨rfl, rfl, trivial⟩
        · have hP := hP.2 c3
          rw [if_neg c3] at hR
          refine j_iload_n C dX12_found_44 rfl rfl ?_
          refine j_iconst (v := 5) C dX12_found_45 (by decide) ?_
          refine j_icmp_ne (tgt := 65) C dX12_found_46 (by decide) (fun c4 => ?_) (fun c4 => ?_)
          · have hP := hP.2 c4
            rw [if_neg c4] at hR
            refine j_iload_n C dX12_found_65 rfl rfl ?_
            refine j_iconst (v := 3) C dX12_found_66 (by decide) ?_
            refine j_icmp_ge (tgt := 74) C dX12_found_67 (by decide) (fun c5 => ?_) (fun c5 => ?_)
            · have hP := hP.1 c5
              rw [if_pos c5] at hR
              refine j_iconst (v := 1) C dX12_found_74 (by decide) ?_
              exact j_vl (tX12_found_75 C  a0 1 (hs h 0 0 0) hP hR) ⟨rfl, rfl, trivial⟩
            · have hP := hP.2 c5
              rw [if_neg c5] at hR
              refine j_iconst (v := 0) C dX12_found_70 (by decide) ?_
              refine j_goto (tgt := 75) C dX12_found_71 (by decide) ?_
              exact j_vl (tX12_found_75 C  a0 0 (hs h 0 0 0) hP hR) ⟨rfl, rfl, trivial⟩
          · have hP := hP.1 c4
            rw [if_pos c4] at hR
            exact j_vl (tX12_found_49 C  a0 (hs h 0 0 0) hP hR) ⟨rfl, rfl, trivial⟩
      · have hP := hP.1 c2
        rw [if_pos c2] at hR
        refine j_bipush (v := (-2)) C dX12_found_37 (by decide) ?_
        exact hR _ _ dX12_found_39
    · have hP := hP.1 c1
      rw [if_pos c1] at hR
      refine j_aload_n C dX12_found_25 rfl rfl ?_
      refine gM_343 (v := (h 0 67)) C dX12_found_26 (hz_i (by decide)) ?_
      exact hR _ _ dX12_found_29
  · have hP := hP.1 c0
    rw [if_pos c0] at hR
    refine j_iconst (v := (-1)) C dX12_found_17 (by decide) ?_
    exact hR _ _ dX12_found_18
theorem MX12_found {l0 : Launch} {Y : fj_Y} {ad : Nat → Nat} (a0 : Int32) (h : ph_H) (hP : PX12_found a0 h) : MI l0 yX12_found cX12_found 3 (some .int) ({ frames := 1, cells := 0, slots := 0, locals := 25 } : Room) Y ad 50 SM h [.ref (ad 0), .int a0] (fun r S' h' => S' = SM ∧ h' = (FX12_found a0 h).2 ∧ r = (FX12_found a0 h).1) := met_i (by decide) (Nat.le_of_ble_eq_true rfl) (fun _ _ _ _ => rfl) (fun X C K => j_vl (tX12_found C a0 h hP (fun pc lv hd => K _ _ _ ⟨rfl, rfl, rfl⟩ pc lv hd)) ⟨rfl, rfl, trivial⟩)
end MG_08_m08
section MG_08_m09
-- X12_isShelf
def FX12_isShelf (a0 : Int32) : Int32 := if a0 < 0 then (0) else (if 8 ≤ a0 then (0) else (1))
def PX12_isShelf (a0 : Int32) : Prop := (a0 < 0 → (True)) ∧ (¬ a0 < 0 → ((8 ≤ a0 → (True)) ∧ (¬ 8 ≤ a0 → (True))))
set_option maxRecDepth 100000 in
set_option maxHeartbeats 4000000 in
theorem tX12_isShelf {X : fj_X} {Y : fj_Y} {l0 : Launch} {ad : Nat → Nat} (C : FC X Y l0 cX12_isShelf 1 RX12 ({ frames := 0, cells := 0, slots := 0, locals := 0 } : Room) 0 0 (some .boolean)) (a0 : Int32) (h : ph_H) (hP : PX12_isShelf a0) (hR : RETq X Y ad 50 SM h cX12_isShelf (FX12_isShelf a0)) : FJ X Y ad 50 SM h 0 [(0, .int a0)] [] := by
  unfold PX12_isShelf at hP
  unfold FX12_isShelf at hR
  refine j_iload_n C dX12_isShelf_0 rfl rfl ?_
  refine j_if_lt (tgt := 14) C dX12_isShelf_1 (by decide) (fun c0 => ?_) (fun c0 => ?_)
  · have hP := hP.1 c0
    rw [if_pos c0] at hR
    refine j_iconst (v := 0) C dX12_isShelf_14 (by decide) ?_
    exact hR bo_0 _ _ dX12_isShelf_15
  · have hP := hP.2 c0
    rw [if_neg c0] at hR
    refine j_iload_n C dX12_isShelf_4 rfl rfl ?_
    refine j_bipush (v := 8) C dX12_isShelf_5 (by decide) ?_
    refine j_icmp_ge (tgt := 14) C dX12_isShelf_7 (by decide) (fun c1 => ?_) (fun c1 => ?_)
    · have hP := hP.1 c1
      rw [if_pos c1] at hR
      refine j_iconst (v := 0) C dX12_isShelf_14 (by decide) ?_
      exact hR bo_0 _ _ dX12_isShelf_15
    · have hP := hP.2 c1
      rw [if_neg c1] at hR
      refine j_iconst (v := 1) C dX12_isShelf_10 (by decide) ?_
      refine j_goto (tgt := 15) C dX12_isShelf_11 (by decide) ?_
      exact hR bo_1 _ _ dX12_isShelf_15
theorem MX12_isShelf {l0 : Launch} {Y : fj_Y} {ad : Nat → Nat} (a0 : Int32) (h : ph_H) (hP : PX12_isShelf a0) : MI l0 yX12_isShelf cX12_isShelf 1 (some .boolean) ({ frames := 0, cells := 0, slots := 0, locals := 0 } : Room) Y ad 50 SM h [.int a0] (fun r S' h' => S' = SM ∧ h' = h ∧ r = FX12_isShelf a0 ∧ bo r) := met_i (by decide) (Nat.le_of_ble_eq_true rfl) (fun _ _ _ q => bo_n q.2.2.2) (fun X C K => j_vl (tX12_isShelf C a0 h hP (fun b pc lv hd => K _ _ _ ⟨rfl, rfl, rfl, b⟩ pc lv hd)) ⟨rfl, trivial⟩)

-- X12_keep_
def FX12_keep__246 (L174 : Int32 → Int32 → Int32 → ph_H → Int32 × ph_H) (x1 : Int32) (x2 : Int32) (x4 : Int32) (s0 : Int32) (s1 : Int32) (h : ph_H) : Int32 × ph_H := L174 x1 x2 (x4 + 1) (hs h 48 s1.toNatClampNeg s0)
def PX12_keep__246 (LP174 : Int32 → Int32 → Int32 → ph_H → Prop) (x1 : Int32) (x2 : Int32) (x4 : Int32) (s0 : Int32) (s1 : Int32) (h : ph_H) : Prop := vp_in s1 480 ∧ (LP174 x1 x2 (x4 + 1) (hs h 48 s1.toNatClampNeg s0))
set_option maxRecDepth 100000 in
set_option maxHeartbeats 4000000 in
theorem tX12_keep__246 {X : fj_X} {Y : fj_Y} {l0 : Launch} {ad : Nat → Nat} (C : FC X Y l0 cX12_keep_ 6 RX12 ({ frames := 1, cells := 0, slots := 0, locals := 25 } : Room) 0 0 (some .int)) (L174 : Int32 → Int32 → Int32 → ph_H → Int32 × ph_H) (LP174 : Int32 → Int32 → Int32 → ph_H → Prop) (hL174 : ∀ (x1 : Int32) (x2 : Int32) (x4 : Int32) (h : ph_H), LP174 x1 x2 x4 h → RETi X Y ad 50 SM cX12_keep_ (L174 x1 x2 x4 h) → FJ X Y ad 50 SM h 174 [(0, .ref (ad 0)), (1, .int x1), (2, .int x2), (4, .int x4)] []) (x1 : Int32) (x2 : Int32) (x4 : Int32) (s0 : Int32) (s1 : Int32) (h : ph_H) (hP : PX12_keep__246 LP174 x1 x2 x4 s0 s1 h) (hR : RETi X Y ad 50 SM cX12_keep_ (FX12_keep__246 L174 x1 x2 x4 s0 s1 h)) : FJ X Y ad 50 SM h 246 [(0, .ref (ad 0)), (1, .int x1), (2, .int x2), (4, .int x4)] [.int s0, .int s1, .ref (ad 48)] := by
  unfold PX12_keep__246 at hP
  unfold FX12_keep__246 at hR
  obtain ⟨p0, hP⟩ := hP
  refine j_iast (k := 48) C dX12_keep__246 (by decide) rfl p0 ?_
  refine j_iinc (v := (x4 + 1)) C dX12_keep__247 rfl rfl (by decide) rfl ?_
  refine j_goto (tgt := 174) C dX12_keep__250 (by decide) ?_
  exact j_vl (hL174 x1 x2 (x4 + 1) (hs h 48 s1.toNatClampNeg s0) hP hR) ⟨rfl, rfl, rfl, rfl, trivial⟩
def FX12_keep__174  : Nat → Int32 → Int32 → Int32 → ph_H → Int32 × ph_H
  | 0, _, _, _, h => (0, h)
  | q + 1, x1, x2, x4, h => if (h 45 (x1.toNatClampNeg)) ≤ x4 then ((0, h)) else (if x2 = 2 then (FX12_keep__246 (FX12_keep__174  q) x1 x2 x4 (h 29 ((x4 + 1).toNatClampNeg)) ((60 * x1) + x4) h) else (if (h 20 (((28 * (h 0 38)) + x4).toNatClampNeg)) = 0 then (FX12_keep__246 (FX12_keep__174  q) x1 x2 x4 (h 21 (((28 * (h 0 38)) + x4).toNatClampNeg)) ((60 * x1) + x4) h) else (FX12_keep__246 (FX12_keep__174  q) x1 x2 x4 0 ((60 * x1) + x4) h)))
def PX12_keep__174  : Nat → Int32 → Int32 → Int32 → ph_H → Prop
  | 0, _, _, _, _ => False
  | q + 1, x1, x2, x4, h => vp_in x1 8 ∧ (((h 45 (x1.toNatClampNeg)) ≤ x4 → (True)) ∧ (¬ (h 45 (x1.toNatClampNeg)) ≤ x4 → ((x2 = 2 → (vp_in (x4 + 1) 301 ∧ (PX12_keep__246 (PX12_keep__174  q) x1 x2 x4 (h 29 ((x4 + 1).toNatClampNeg)) ((60 * x1) + x4) h))) ∧ (¬ x2 = 2 → (vp_in ((28 * (h 0 38)) + x4) 8428 ∧ (((h 20 (((28 * (h 0 38)) + x4).toNatClampNeg)) = 0 → (vp_in ((28 * (h 0 38)) + x4) 8428 ∧ (PX12_keep__246 (PX12_keep__174  q) x1 x2 x4 (h 21 (((28 * (h 0 38)) + x4).toNatClampNeg)) ((60 * x1) + x4) h))) ∧ (¬ (h 20 (((28 * (h 0 38)) + x4).toNatClampNeg)) = 0 → (PX12_keep__246 (PX12_keep__174  q) x1 x2 x4 0 ((60 * x1) + x4) h))))))))
set_option maxRecDepth 100000 in
set_option maxHeartbeats 4000000 in
theorem tX12_keep__174 {X : fj_X} {Y : fj_Y} {l0 : Launch} {ad : Nat → Nat} (C : FC X Y l0 cX12_keep_ 6 RX12 ({ frames := 1, cells := 0, slots := 0, locals := 25 } : Room) 0 0 (some .int)) : ∀ (q : Nat) (x1 : Int32) (x2 : Int32) (x4 : Int32) (h : ph_H), PX12_keep__174  q x1 x2 x4 h → RETi X Y ad 50 SM cX12_keep_ (FX12_keep__174  q x1 x2 x4 h) → FJ X Y ad 50 SM h 174 [(0, .ref (ad 0)), (1, .int x1), (2, .int x2), (4, .int x4)] [] := by
  intro q
  induction q with
  | zero =>
    intro x1 x2 x4 h hP hR
    exact absurd hP id
  | succ q ih =>
    intro x1 x2 x4 h hP hR
    unfold PX12_keep__174 at hP
    unfold FX12_keep__174 at hR
    refine j_iload C dX12_keep__174 rfl ?_
    refine j_aload_n C dX12_keep__176 rfl rfl ?_
    refine gM_149 C dX12_keep__177 ?_
    refine j_iload_n C dX12_keep__180 rfl rfl ?_
    obtain ⟨p4, hP⟩ := hP
    refine j_iald (k := 45) (v := (h 45 (x1.toNatClampNeg))) C dX12_keep__181 (by decide) rfl p4 rfl ?_
    refine j_icmp_ge (tgt := 253) C dX12_keep__182 (by decide) (fun c0 => ?_) (fun c0 => ?_)
    · have hP := hP.1 c0
      rw [if_pos c0] at hR
      refine j_iconst (v := 0) C dX12_keep__253 (by decide) ?_
      exact hR _ _ dX12_keep__254
    · have hP := hP.2 c0
      rw [if_neg c0] at hR
      refine j_bipush (v := 28) C dX12_keep__185 (by decide) ?_
      refine j_aload_n C dX12_keep__187 rfl rfl ?_
      refine gM_304 (v := (h 0 38)) C dX12_keep__188 rfl ?_
      refine j_imul C dX12_keep__191 ?_
      refine j_iload C dX12_keep__192 rfl ?_
      refine j_iadd C dX12_keep__194 ?_
      refine j_istore C dX12_keep__195 (by decide) rfl ?_
      refine j_aload_n C dX12_keep__197 rfl rfl ?_
      refine gM_158 C dX12_keep__198 ?_
      refine j_bipush (v := 60) C dX12_keep__201 (by decide) ?_
      refine j_iload_n C dX12_keep__203 rfl rfl ?_
      refine j_imul C dX12_keep__204 ?_
      refine j_iload C dX12_keep__205 rfl ?_
      refine j_iadd C dX12_keep__207 ?_
      refine j_iload_n C dX12_keep__208 rfl rfl ?_
      refine j_iconst (v := 2) C dX12_keep__209 (by decide) ?_
      refine j_icmp_ne (tgt := 225) C dX12_keep__210 (by decide) (fun c1 => ?_) (fun c1 => ?_)
      · have hP := hP.2 c1
        rw [if_neg c1] at hR
        refine j_aload_n C dX12_keep__225 rfl rfl ?_
        refine gM_68 C dX12_keep__226 ?_
        refine j_iload C dX12_keep__229 rfl ?_
        obtain ⟨p3, hP⟩ := hP
        refine j_iald (k := 20) (v := (h 20 (((28 * (h 0 38)) + x4).toNatClampNeg))) C dX12_keep__231 (by decide) rfl p3 rfl ?_
        refine j_if_ne (tgt := 245) C dX12_keep__232 (by decide) (fun c2 => ?_) (fun c2 => ?_)
        · have hP := hP.2 c2
          rw [if_neg c2] at hR
          refine j_iconst (v := 0) C dX12_keep__245 (by decide) ?_
          exact j_vl (tX12_keep__246 C (FX12_keep__174  q) (PX12_keep__174  q) (ih) x1 x2 x4 0 ((60 * x1) + x4) h hP hR) ⟨rfl, rfl, rfl, rfl, trivial⟩
        · have hP := hP.1 c2
          rw [if_pos c2] at hR
          refine j_aload_n C dX12_keep__235 rfl rfl ?_
          refine gM_71 C dX12_keep__236 ?_
          refine j_iload C dX12_keep__239 rfl ?_
          obtain ⟨p3, hP⟩ := hP
          refine j_iald (k := 21) (v := (h 21 (((28 * (h 0 38)) + x4).toNatClampNeg))) C dX12_keep__241 (by decide) rfl p3 rfl ?_
          refine j_goto (tgt := 246) C dX12_keep__242 (by decide) ?_
          exact j_vl (tX12_keep__246 C (FX12_keep__174  q) (PX12_keep__174  q) (ih) x1 x2 x4 (h 21 (((28 * (h 0 38)) + x4).toNatClampNeg)) ((60 * x1) + x4) h hP hR) ⟨rfl, rfl, rfl, rfl, trivial⟩
      · have hP := hP.1 c1
        rw [if_pos c1] at hR
        refine j_aload_n C dX12_keep__213 rfl rfl ?_
        refine gM_96 C dX12_keep__214 ?_
        refine j_iload C dX12_keep__217 rfl ?_
        refine j_iconst (v := 1) C dX12_keep__219 (by decide) ?_
        refine j_iadd C dX12_keep__220 ?_
        obtain ⟨p5, hP⟩ := hP
        refine j_iald (k := 29) (v := (h 29 ((x4 + 1).toNatClampNeg))) C dX12_keep__221 (by decide) rfl p5 rfl ?_
        refine j_goto (tgt := 246) C dX12_keep__222 (by decide) ?_
        exact j_vl (tX12_keep__246 C (FX12_keep__174  q) (PX12_keep__174  q) (ih) x1 x2 x4 (h 29 ((x4 + 1).toNatClampNeg)) ((60 * x1) + x4) h hP hR) ⟨rfl, rfl, rfl, rfl, trivial⟩
def FX12_keep__170  (x1 : Int32) (x2 : Int32) (s0 : Int32) (s1 : Int32) (h : ph_H) : Int32 × ph_H := FX12_keep__174 2000 x1 x2 0 (hs h 45 s1.toNatClampNeg s0)
def PX12_keep__170  (x1 : Int32) (x2 : Int32) (s0 : Int32) (s1 : Int32) (h : ph_H) : Prop := vp_in s1 8 ∧ (PX12_keep__174 2000 x1 x2 0 (hs h 45 s1.toNatClampNeg s0))
set_option maxRecDepth 100000 in
set_option maxHeartbeats 4000000 in
theorem tX12_keep__170 {X : fj_X} {Y : fj_Y} {l0 : Launch} {ad : Nat → Nat} (C : FC X Y l0 cX12_keep_ 6 RX12 ({ frames := 1, cells := 0, slots := 0, locals := 25 } : Room) 0 0 (some .int)) (x1 : Int32) (x2 : Int32) (s0 : Int32) (s1 : Int32) (h : ph_H) (hP : PX12_keep__170  x1 x2 s0 s1 h) (hR : RETi X Y ad 50 SM cX12_keep_ (FX12_keep__170  x1 x2 s0 s1 h)) : FJ X Y ad 50 SM h 170 [(0, .ref (ad 0)), (1, .int x1), (2, .int x2)] [.int s0, .int s1, .ref (ad 45)] := by
  unfold PX12_keep__170 at hP
  unfold FX12_keep__170 at hR
  obtain ⟨p0, hP⟩ := hP
  refine j_iast (k := 45) C dX12_keep__170 (by decide) rfl p0 ?_
  refine j_iconst (v := 0) C dX12_keep__171 (by decide) ?_
  refine j_istore C dX12_keep__172 (by decide) rfl ?_
  exact j_vl (tX12_keep__174 C 2000 x1 x2 0 (hs h 45 s1.toNatClampNeg s0) hP hR) ⟨rfl, rfl, rfl, rfl, trivial⟩
def FX12_keep__63  (x1 : Int32) (x2 : Int32) (x3 : Int32) (h : ph_H) : Int32 × ph_H := if x2 = 1 then ((0, (hs (hs (hs (hs (hs h 44 x1.toNatClampNeg x2) 45 x1.toNatClampNeg 0) 46 x1.toNatClampNeg x3) 47 x1.toNatClampNeg (h 25 (((12 * (h 0 38)) + x3).toNatClampNeg))) 45 x1.toNatClampNeg (h 27 (((12 * (h 0 38)) + x3).toNatClampNeg))))) else (if x2 ≤ 1 then ((0, (hs (hs h 44 x1.toNatClampNeg x2) 45 x1.toNatClampNeg 0))) else (if x2 = 3 then (FX12_keep__170  x1 x2 12 x1 (hs (hs h 44 x1.toNatClampNeg x2) 45 x1.toNatClampNeg 0)) else (if 60 ≤ (h 0 38) then (FX12_keep__170  x1 x2 60 x1 (hs (hs h 44 x1.toNatClampNeg x2) 45 x1.toNatClampNeg 0)) else (FX12_keep__170  x1 x2 (h 0 38) x1 (hs (hs h 44 x1.toNatClampNeg x2) 45 x1.toNatClampNeg 0)))))
def PX12_keep__63  (x1 : Int32) (x2 : Int32) (x3 : Int32) (h : ph_H) : Prop := vp_in x1 8 ∧ (vp_in x1 8 ∧ ((x2 = 1 → (vp_in x1 8 ∧ (vp_in ((12 * (h 0 38)) + x3) 3612 ∧ (vp_in x1 8 ∧ (vp_in ((12 * (h 0 38)) + x3) 3612 ∧ (vp_in x1 8 ∧ (True))))))) ∧ (¬ x2 = 1 → ((x2 ≤ 1 → (True)) ∧ (¬ x2 ≤ 1 → ((x2 = 3 → (PX12_keep__170  x1 x2 12 x1 (hs (hs h 44 x1.toNatClampNeg x2) 45 x1.toNatClampNeg 0))) ∧ (¬ x2 = 3 → ((60 ≤ (h 0 38) → (PX12_keep__170  x1 x2 60 x1 (hs (hs h 44 x1.toNatClampNeg x2) 45 x1.toNatClampNeg 0))) ∧ (¬ 60 ≤ (h 0 38) → (PX12_keep__170  x1 x2 (h 0 38) x1 (hs (hs h 44 x1.toNatClampNeg x2) 45 x1.toNatClampNeg 0)))))))))))
set_option maxRecDepth 100000 in
set_option maxHeartbeats 4000000 in
theorem tX12_keep__63 {X : fj_X} {Y : fj_Y} {l0 : Launch} {ad : Nat → Nat} (C : FC X Y l0 cX12_keep_ 6 RX12 ({ frames := 1, cells := 0, slots := 0, locals := 25 } : Room) 0 0 (some .int)) (x1 : Int32) (x2 : Int32) (x3 : Int32) (h : ph_H) (hP : PX12_keep__63  x1 x2 x3 h) (hR : RETi X Y ad 50 SM cX12_keep_ (FX12_keep__63  x1 x2 x3 h)) : FJ X Y ad 50 SM h 63 [(0, .ref (ad 0)), (1, .int x1), (2, .int x2), (3, .int x3)] [] := by
  unfold PX12_keep__63 at hP
  unfold FX12_keep__63 at hR
  refine j_aload_n C dX12_keep__63 rfl rfl ?_
  refine gM_146 C dX12_keep__64 ?_
  refine j_iload_n C dX12_keep__67 rfl rfl ?_
  refine j_iload_n C dX12_keep__68 rfl rfl ?_
  obtain ⟨p4, hP⟩ := hP
  refine j_iast (k := 44) C dX12_keep__69 (by decide) rfl p4 ?_
  refine j_aload_n C dX12_keep__70 rfl rfl ?_
  refine gM_149 C dX12_keep__71 ?_
  refine j_iload_n C dX12_keep__74 rfl rfl ?_
  refine j_iconst (v := 0) C dX12_keep__75 (by decide) ?_
  obtain ⟨p10, hP⟩ := hP
  refine j_iast (k := 45) C dX12_keep__76 (by decide) rfl p10 ?_
  refine j_iload_n C dX12_keep__77 rfl rfl ?_
  refine j_iconst (v := 1) C dX12_keep__78 (by decide) ?_
  refine j_icmp_ne (tgt := 132) C dX12_keep__79 (by decide) (fun c0 => ?_) (fun c0 => ?_)
  · have hP := hP.2 c0
    rw [if_neg c0] at hR
    refine j_iload_n C dX12_keep__132 rfl rfl ?_
    refine j_iconst (v := 1) C dX12_keep__133 (by decide) ?_
    refine j_icmp_le (tgt := 253) C dX12_keep__134 (by decide) (fun c1 => ?_) (fun c1 => ?_)
    · have hP := hP.1 c1
      rw [if_pos c1] at hR
      refine j_iconst (v := 0) C dX12_keep__253 (by decide) ?_
      exact hR _ _ dX12_keep__254
    · have hP := hP.2 c1
      rw [if_neg c1] at hR
      refine j_aload_n C dX12_keep__137 rfl rfl ?_
      refine gM_149 C dX12_keep__138 ?_
      refine j_iload_n C dX12_keep__141 rfl rfl ?_
      refine j_iload_n C dX12_keep__142 rfl rfl ?_
      refine j_iconst (v := 3) C dX12_keep__143 (by decide) ?_
      refine j_icmp_ne (tgt := 152) C dX12_keep__144 (by decide) (fun c2 => ?_) (fun c2 => ?_)
      · have hP := hP.2 c2
        rw [if_neg c2] at hR
        refine j_aload_n C dX12_keep__152 rfl rfl ?_
        refine gM_304 (v := (h 0 38)) C dX12_keep__153 ((hz_k (by decide)).trans (hz_k (by decide))) ?_
        refine j_bipush (v := 60) C dX12_keep__156 (by decide) ?_
        refine j_icmp_ge (tgt := 168) C dX12_keep__158 (by decide) (fun c3 => ?_) (fun c3 => ?_)
        · have hP := hP.1 c3
          rw [if_pos c3] at hR
          refine j_bipush (v := 60) C dX12_keep__168 (by decide) ?_
          exact j_vl (tX12_keep__170 C  x1 x2 60 x1 (hs (hs h 44 x1.toNatClampNeg x2) 45 x1.toNatClampNeg 0) hP hR) ⟨rfl, rfl, rfl, trivial⟩
        · have hP := hP.2 c3
          rw [if_neg c3] at hR
          refine j_aload_n C dX12_keep__161 rfl rfl ?_
          refine gM_304 (v := (h 0 38)) C dX12_keep__162 ((hz_k (by decide)).trans (hz_k (by decide))) ?_
          refine j_goto (tgt := 170) C dX12_keep__165 (by decide) ?_
          exact j_vl (tX12_keep__170 C  x1 x2 (h 0 38) x1 (hs (hs h 44 x1.toNatClampNeg x2) 45 x1.toNatClampNeg 0) hP hR) ⟨rfl, rfl, rfl, trivial⟩
      · have hP := hP.1 c2
        rw [if_pos c2] at hR
        refine j_bipush (v := 12) C dX12_keep__147 (by decide) ?_
        refine j_goto (tgt := 170) C dX12_keep__149 (by decide) ?_
        exact j_vl (tX12_keep__170 C  x1 x2 12 x1 (hs (hs h 44 x1.toNatClampNeg x2) 45 x1.toNatClampNeg 0) hP hR) ⟨rfl, rfl, rfl, trivial⟩
  · have hP := hP.1 c0
    rw [if_pos c0] at hR
    refine j_aload_n C dX12_keep__82 rfl rfl ?_
    refine gM_152 C dX12_keep__83 ?_
    refine j_iload_n C dX12_keep__86 rfl rfl ?_
    refine j_iload_n C dX12_keep__87 rfl rfl ?_
    obtain ⟨p4, hP⟩ := hP
    refine j_iast (k := 46) C dX12_keep__88 (by decide) rfl p4 ?_
    refine j_aload_n C dX12_keep__89 rfl rfl ?_
    refine gM_155 C dX12_keep__90 ?_
    refine j_iload_n C dX12_keep__93 rfl rfl ?_
    refine j_aload_n C dX12_keep__94 rfl rfl ?_
    refine gM_83 C dX12_keep__95 ?_
    refine j_bipush (v := 12) C dX12_keep__98 (by decide) ?_
    refine j_aload_n C dX12_keep__100 rfl rfl ?_
    refine gM_304 (v := (h 0 38)) C dX12_keep__101 ((hz_k (by decide)).trans ((hz_k (by decide)).trans (hz_k (by decide)))) ?_
    refine j_imul C dX12_keep__104 ?_
    refine j_iload_n C dX12_keep__105 rfl rfl ?_
    refine j_iadd C dX12_keep__106 ?_
    obtain ⟨p17, hP⟩ := hP
    refine j_iald (k := 25) (v := (h 25 (((12 * (h 0 38)) + x3).toNatClampNeg))) C dX12_keep__107 (by decide) rfl p17 ((hz_k (by decide)).trans ((hz_k (by decide)).trans (hz_k (by decide)))) ?_
    obtain ⟨p19, hP⟩ := hP
    refine j_iast (k := 47) C dX12_keep__108 (by decide) rfl p19 ?_
    refine j_aload_n C dX12_keep__109 rfl rfl ?_
    refine gM_149 C dX12_keep__110 ?_
    refine j_iload_n C dX12_keep__113 rfl rfl ?_
    refine j_aload_n C dX12_keep__114 rfl rfl ?_
    refine gM_89 C dX12_keep__115 ?_
    refine j_bipush (v := 12) C dX12_keep__118 (by decide) ?_
    refine j_aload_n C dX12_keep__120 rfl rfl ?_
    refine gM_304 (v := (h 0 38)) C dX12_keep__121 ((hz_k (by decide)).trans ((hz_k (by decide)).trans ((hz_k (by decide)).trans (hz_k (by decide))))) ?_
    refine j_imul C dX12_keep__124 ?_
    refine j_iload_n C dX12_keep__125 rfl rfl ?_
    refine j_iadd C dX12_keep__126 ?_
    obtain ⟨p32, hP⟩ := hP
    refine j_iald (k := 27) (v := (h 27 (((12 * (h 0 38)) + x3).toNatClampNeg))) C dX12_keep__127 (by decide) rfl p32 ((hz_k (by decide)).trans ((hz_k (by decide)).trans ((hz_k (by decide)).trans (hz_k (by decide))))) ?_
    obtain ⟨p34, hP⟩ := hP
    refine j_iast (k := 45) C dX12_keep__128 (by decide) rfl p34 ?_
    refine j_goto (tgt := 253) C dX12_keep__129 (by decide) ?_
    refine j_iconst (v := 0) C dX12_keep__253 (by decide) ?_
    exact hR _ _ dX12_keep__254
def FX12_keep__35  (x1 : Int32) (x2 : Int32) (x3 : Int32) (h : ph_H) : Int32 × ph_H := if x2 = 1 then (if (FX12_isIn x3.toInt64 0 (((h 24 ((h 0 38).toNatClampNeg)) - 1).toInt64)) = 0 then (((-1), h)) else (FX12_keep__63  x1 x2 x3 h)) else (FX12_keep__63  x1 x2 x3 h)
def PX12_keep__35  (x1 : Int32) (x2 : Int32) (x3 : Int32) (h : ph_H) : Prop := (x2 = 1 → (vp_in (h 0 38) 301 ∧ ((PX12_isIn x3.toInt64 0 (((h 24 ((h 0 38).toNatClampNeg)) - 1).toInt64)) ∧ (((FX12_isIn x3.toInt64 0 (((h 24 ((h 0 38).toNatClampNeg)) - 1).toInt64)) = 0 → (True)) ∧ (¬ (FX12_isIn x3.toInt64 0 (((h 24 ((h 0 38).toNatClampNeg)) - 1).toInt64)) = 0 → (PX12_keep__63  x1 x2 x3 h)))))) ∧ (¬ x2 = 1 → (PX12_keep__63  x1 x2 x3 h))
set_option maxRecDepth 100000 in
set_option maxHeartbeats 4000000 in
theorem tX12_keep__35 {X : fj_X} {Y : fj_Y} {l0 : Launch} {ad : Nat → Nat} (C : FC X Y l0 cX12_keep_ 6 RX12 ({ frames := 1, cells := 0, slots := 0, locals := 25 } : Room) 0 0 (some .int)) (x1 : Int32) (x2 : Int32) (x3 : Int32) (h : ph_H) (hP : PX12_keep__35  x1 x2 x3 h) (hR : RETi X Y ad 50 SM cX12_keep_ (FX12_keep__35  x1 x2 x3 h)) : FJ X Y ad 50 SM h 35 [(0, .ref (ad 0)), (1, .int x1), (2, .int x2), (3, .int x3)] [] := by
  unfold PX12_keep__35 at hP
  unfold FX12_keep__35 at hR
  refine j_iload_n C dX12_keep__35 rfl rfl ?_
  refine j_iconst (v := 1) C dX12_keep__36 (by decide) ?_
  refine j_icmp_ne (tgt := 63) C dX12_keep__37 (by decide) (fun c0 => ?_) (fun c0 => ?_)
  · have hP := hP.2 c0
    rw [if_neg c0] at hR
    exact j_vl (tX12_keep__63 C  x1 x2 x3 h hP hR) ⟨rfl, rfl, rfl, rfl, trivial⟩
  · have hP := hP.1 c0
    rw [if_pos c0] at hR
    refine j_iload_n C dX12_keep__40 rfl rfl ?_
    refine j_i2l C dX12_keep__41 ?_
    refine j_lconst (v := 0) C dX12_keep__42 (by decide) ?_
    refine j_aload_n C dX12_keep__43 rfl rfl ?_
    refine gM_80 C dX12_keep__44 ?_
    refine j_aload_n C dX12_keep__47 rfl rfl ?_
    refine gM_304 (v := (h 0 38)) C dX12_keep__48 rfl ?_
    obtain ⟨p7, hP⟩ := hP
    refine j_iald (k := 24) (v := (h 24 ((h 0 38).toNatClampNeg))) C dX12_keep__51 (by decide) rfl p7 rfl ?_
    refine j_iconst (v := 1) C dX12_keep__52 (by decide) ?_
    refine j_isub C dX12_keep__53 ?_
    refine j_i2l C dX12_keep__54 ?_
    obtain ⟨p12, hP⟩ := hP
    refine j_callS C (MX12_isIn x3.toInt64 0 (((h 24 ((h 0 38).toNatClampNeg)) - 1).toInt64) h p12) dX12_keep__55 (CKX12_isIn (by decide)) ⟨rfl, rfl⟩ lk_RX12_169 st_X12_isIn rfl (Nat.le_of_ble_eq_true rfl) ?_
    intro r S' h' hq
    obtain ⟨rfl, hh, rfl, hb14⟩ := hq
    rw [hh]
    refine j_if_ne (tgt := 63) C dX12_keep__58 (by decide) (fun c1 => ?_) (fun c1 => ?_)
    · have hP := hP.2 c1
      rw [if_neg c1] at hR
      exact j_vl (tX12_keep__63 C  x1 x2 x3 h hP hR) ⟨rfl, rfl, rfl, rfl, trivial⟩
    · have hP := hP.1 c1
      rw [if_pos c1] at hR
      refine j_iconst (v := (-1)) C dX12_keep__61 (by decide) ?_
      exact hR _ _ dX12_keep__62
def FX12_keep_ (a0 : Int32) (a1 : Int32) (a2 : Int32) (h : ph_H) : Int32 × ph_H := if (FX12_isShelf a0) = 0 then (((-1), (hs h 0 0 0))) else (if (FX12_isIn a1.toInt64 0 3) = 0 then (((-1), (hs h 0 0 0))) else (if a1 ≤ 0 then (FX12_keep__35  a0 a1 a2 (hs h 0 0 0)) else (if (h 0 36) = 0 then (((-1), (hs h 0 0 0))) else (FX12_keep__35  a0 a1 a2 (hs h 0 0 0)))))
def PX12_keep_ (a0 : Int32) (a1 : Int32) (a2 : Int32) (h : ph_H) : Prop := (PX12_isShelf a0) ∧ (((FX12_isShelf a0) = 0 → (True)) ∧ (¬ (FX12_isShelf a0) = 0 → ((PX12_isIn a1.toInt64 0 3) ∧ (((FX12_isIn a1.toInt64 0 3) = 0 → (True)) ∧ (¬ (FX12_isIn a1.toInt64 0 3) = 0 → ((a1 ≤ 0 → (PX12_keep__35  a0 a1 a2 (hs h 0 0 0))) ∧ (¬ a1 ≤ 0 → (((h 0 36) = 0 → (True)) ∧ (¬ (h 0 36) = 0 → (PX12_keep__35  a0 a1 a2 (hs h 0 0 0)))))))))))
set_option maxRecDepth 100000 in
set_option maxHeartbeats 4000000 in
theorem tX12_keep_ {X : fj_X} {Y : fj_Y} {l0 : Launch} {ad : Nat → Nat} (C : FC X Y l0 cX12_keep_ 6 RX12 ({ frames := 1, cells := 0, slots := 0, locals := 25 } : Room) 0 0 (some .int)) (a0 : Int32) (a1 : Int32) (a2 : Int32) (h : ph_H) (hP : PX12_keep_ a0 a1 a2 h) (hR : RETi X Y ad 50 SM cX12_keep_ (FX12_keep_ a0 a1 a2 h)) : FJ X Y ad 50 SM h 0 [(0, .ref (ad 0)), (1, .int a0), (2, .int a1), (3, .int a2)] [] := by
  unfold PX12_keep_ at hP
  unfold FX12_keep_ at hR
  refine j_aload_n C dX12_keep__0 rfl rfl ?_
  refine j_iconst (v := 0) C dX12_keep__1 (by decide) ?_
  refine pM_164 C dX12_keep__2 ?_
  refine j_iload_n C dX12_keep__5 rfl rfl ?_
  obtain ⟨p4, hP⟩ := hP
  refine j_callS C (MX12_isShelf a0 (hs h 0 0 0) p4) dX12_keep__6 (CKX12_isShelf (by decide)) ⟨rfl, rfl⟩ lk_RX12_374 st_X12_isShelf rfl (Nat.le_of_ble_eq_true rfl) ?_
  intro r S' h' hq
  obtain ⟨rfl, hh, rfl, hb6⟩ := hq
  rw [hh]
  refine j_if_eq (tgt := 61) C dX12_keep__9 (by decide) (fun c0 => ?_) (fun c0 => ?_)
  · have hP := hP.1 c0
    rw [if_pos c0] at hR
    refine j_iconst (v := (-1)) C dX12_keep__61 (by decide) ?_
    exact hR _ _ dX12_keep__62
  · have hP := hP.2 c0
    rw [if_neg c0] at hR
    refine j_iload_n C dX12_keep__12 rfl rfl ?_
    refine j_i2l C dX12_keep__13 ?_
    refine j_lconst (v := 0) C dX12_keep__14 (by decide) ?_
    refine j_ldc2 (v := 3) C dX12_keep__15 kl_RX12_167 ?_
    obtain ⟨p4, hP⟩ := hP
    refine j_callS C (MX12_isIn a1.toInt64 0 3 (hs h 0 0 0) p4) dX12_keep__18 (CKX12_isIn (by decide)) ⟨rfl, rfl⟩ lk_RX12_169 st_X12_isIn rfl (Nat.le_of_ble_eq_true rfl) ?_
    intro r S' h' hq
    obtain ⟨rfl, hh, rfl, hb6⟩ := hq
    rw [hh]
    refine j_if_eq (tgt := 61) C dX12_keep__21 (by decide) (fun c1 => ?_) (fun c1 => ?_)
    · have hP := hP.1 c1
      rw [if_pos c1] at hR
      refine j_iconst (v := (-1)) C dX12_keep__61 (by decide) ?_
      exact hR _ _ dX12_keep__62
    · have hP := hP.2 c1
      rw [if_neg c1] at hR
      refine j_iload_n C dX12_keep__24 rfl rfl ?_
      refine j_if_le (tgt := 35) C dX12_keep__25 (by decide) (fun c2 => ?_) (fun c2 => ?_)
      · have hP := hP.1 c2
        rw [if_pos c2] at hR
        exact j_vl (tX12_keep__35 C  a0 a1 a2 (hs h 0 0 0) hP hR) ⟨rfl, rfl, rfl, rfl, trivial⟩
      · have hP := hP.2 c2
        rw [if_neg c2] at hR
        refine j_aload_n C dX12_keep__28 rfl rfl ?_
        refine gM_294 (v := (h 0 36)) C dX12_keep__29 (hz_i (by decide)) ?_
        refine j_if_eq (tgt := 61) C dX12_keep__32 (by decide) (fun c3 => ?_) (fun c3 => ?_)
        · have hP := hP.1 c3
          rw [if_pos c3] at hR
          refine j_iconst (v := (-1)) C dX12_keep__61 (by decide) ?_
          exact hR _ _ dX12_keep__62
        · have hP := hP.2 c3
          rw [if_neg c3] at hR
          exact j_vl (tX12_keep__35 C  a0 a1 a2 (hs h 0 0 0) hP hR) ⟨rfl, rfl, rfl, rfl, trivial⟩
theorem MX12_keep_ {l0 : Launch} {Y : fj_Y} {ad : Nat → Nat} (a0 : Int32) (a1 : Int32) (a2 : Int32) (h : ph_H) (hP : PX12_keep_ a0 a1 a2 h) : MI l0 yX12_keep_ cX12_keep_ 6 (some .int) ({ frames := 1, cells := 0, slots := 0, locals := 25 } : Room) Y ad 50 SM h [.ref (ad 0), .int a0, .int a1, .int a2] (fun r S' h' => S' = SM ∧ h' = (FX12_keep_ a0 a1 a2 h).2 ∧ r = (FX12_keep_ a0 a1 a2 h).1) := met_i (by decide) (Nat.le_of_ble_eq_true rfl) (fun _ _ _ _ => rfl) (fun X C K => j_vl (tX12_keep_ C a0 a1 a2 h hP (fun pc lv hd => K _ _ _ ⟨rfl, rfl, rfl⟩ pc lv hd)) ⟨rfl, rfl, rfl, rfl, trivial⟩)

-- X12_make
def FX12_make_58  : Nat → Int32 → Int32 → Int32 → ph_H → Int32 × ph_H
  | 0, _, _, _, h => (0, h)
  | q + 1, x1, x3, x4, h => if x3 ≤ x4 then ((0, h)) else (FX12_make_58  q x1 x3 (x4 + 1) (hs h 48 ((60 * x1) + x4).toNatClampNeg 0))
def PX12_make_58  : Nat → Int32 → Int32 → Int32 → ph_H → Prop
  | 0, _, _, _, _ => False
  | q + 1, x1, x3, x4, h => (x3 ≤ x4 → (True)) ∧ (¬ x3 ≤ x4 → (vp_in ((60 * x1) + x4) 480 ∧ (PX12_make_58  q x1 x3 (x4 + 1) (hs h 48 ((60 * x1) + x4).toNatClampNeg 0))))
set_option maxRecDepth 100000 in
set_option maxHeartbeats 4000000 in
theorem tX12_make_58 {X : fj_X} {Y : fj_Y} {l0 : Launch} {ad : Nat → Nat} (C : FC X Y l0 cX12_make 5 RX12 ({ frames := 1, cells := 0, slots := 0, locals := 25 } : Room) 0 0 (some .int)) : ∀ (q : Nat) (x1 : Int32) (x3 : Int32) (x4 : Int32) (h : ph_H), PX12_make_58  q x1 x3 x4 h → RETi X Y ad 50 SM cX12_make (FX12_make_58  q x1 x3 x4 h) → FJ X Y ad 50 SM h 58 [(0, .ref (ad 0)), (1, .int x1), (3, .int x3), (4, .int x4)] [] := by
  intro q
  induction q with
  | zero =>
    intro x1 x3 x4 h hP hR
    exact absurd hP id
  | succ q ih =>
    intro x1 x3 x4 h hP hR
    unfold PX12_make_58 at hP
    unfold FX12_make_58 at hR
    refine j_iload C dX12_make_58 rfl ?_
    refine j_iload_n C dX12_make_60 rfl rfl ?_
    refine j_icmp_ge (tgt := 83) C dX12_make_61 (by decide) (fun c0 => ?_) (fun c0 => ?_)
    · have hP := hP.1 c0
      rw [if_pos c0] at hR
      refine j_iconst (v := 0) C dX12_make_83 (by decide) ?_
      exact hR _ _ dX12_make_84
    · have hP := hP.2 c0
      rw [if_neg c0] at hR
      refine j_aload_n C dX12_make_64 rfl rfl ?_
      refine gM_158 C dX12_make_65 ?_
      refine j_bipush (v := 60) C dX12_make_68 (by decide) ?_
      refine j_iload_n C dX12_make_70 rfl rfl ?_
      refine j_imul C dX12_make_71 ?_
      refine j_iload C dX12_make_72 rfl ?_
      refine j_iadd C dX12_make_74 ?_
      refine j_iconst (v := 0) C dX12_make_75 (by decide) ?_
      obtain ⟨p8, hP⟩ := hP
      refine j_iast (k := 48) C dX12_make_76 (by decide) rfl p8 ?_
      refine j_iinc (v := (x4 + 1)) C dX12_make_77 rfl rfl (by decide) rfl ?_
      refine j_goto (tgt := 58) C dX12_make_80 (by decide) ?_
      exact j_vl (ih x1 x3 (x4 + 1) (hs h 48 ((60 * x1) + x4).toNatClampNeg 0) hP hR) ⟨rfl, rfl, rfl, rfl, trivial⟩
def FX12_make (a0 : Int32) (a1 : Int32) (a2 : Int32) (h : ph_H) : Int32 × ph_H := if (FX12_isShelf a0) = 0 then (((-1), (hs h 0 0 0))) else (if (FX12_isIn a1.toInt64 2 3) = 0 then (((-1), (hs h 0 0 0))) else (if a2 ≤ 60 then (if 0 ≤ a2 then (FX12_make_58 2000 a0 a2 0 (hs (hs (hs h 0 0 0) 44 a0.toNatClampNeg a1) 45 a0.toNatClampNeg a2)) else (((-14), (hs h 0 0 0)))) else (((-1), (hs h 0 0 0)))))
def PX12_make (a0 : Int32) (a1 : Int32) (a2 : Int32) (h : ph_H) : Prop := (PX12_isShelf a0) ∧ (((FX12_isShelf a0) = 0 → (True)) ∧ (¬ (FX12_isShelf a0) = 0 → ((PX12_isIn a1.toInt64 2 3) ∧ (((FX12_isIn a1.toInt64 2 3) = 0 → (True)) ∧ (¬ (FX12_isIn a1.toInt64 2 3) = 0 → ((a2 ≤ 60 → ((0 ≤ a2 → (vp_in a0 8 ∧ (vp_in a0 8 ∧ (PX12_make_58 2000 a0 a2 0 (hs (hs (hs h 0 0 0) 44 a0.toNatClampNeg a1) 45 a0.toNatClampNeg a2))))) ∧ (¬ 0 ≤ a2 → (True)))) ∧ (¬ a2 ≤ 60 → (True))))))))
set_option maxRecDepth 100000 in
set_option maxHeartbeats 4000000 in
theorem tX12_make {X : fj_X} {Y : fj_Y} {l0 : Launch} {ad : Nat → Nat} (C : FC X Y l0 cX12_make 5 RX12 ({ frames := 1, cells := 0, slots := 0, locals := 25 } : Room) 0 0 (some .int)) (a0 : Int32) (a1 : Int32) (a2 : Int32) (h : ph_H) (hP : PX12_make a0 a1 a2 h) (hR : RETi X Y ad 50 SM cX12_make (FX12_make a0 a1 a2 h)) : FJ X Y ad 50 SM h 0 [(0, .ref (ad 0)), (1, .int a0), (2, .int a1), (3, .int a2)] [] := by
  unfold PX12_make at hP
  unfold FX12_make at hR
  refine j_aload_n C dX12_make_0 rfl rfl ?_
  refine j_iconst (v := 0) C dX12_make_1 (by decide) ?_
  refine pM_164 C dX12_make_2 ?_
  refine j_iload_n C dX12_make_5 rfl rfl ?_
  obtain ⟨p4, hP⟩ := hP
  refine j_callS C (MX12_isShelf a0 (hs h 0 0 0) p4) dX12_make_6 (CKX12_isShelf (by decide)) ⟨rfl, rfl⟩ lk_RX12_374 st_X12_isShelf rfl (Nat.le_of_ble_eq_true rfl) ?_
  intro r S' h' hq
  obtain ⟨rfl, hh, rfl, hb6⟩ := hq
  rw [hh]
  refine j_if_eq (tgt := 32) C dX12_make_9 (by decide) (fun c0 => ?_) (fun c0 => ?_)
  · have hP := hP.1 c0
    rw [if_pos c0] at hR
    refine j_iconst (v := (-1)) C dX12_make_32 (by decide) ?_
    exact hR _ _ dX12_make_33
  · have hP := hP.2 c0
    rw [if_neg c0] at hR
    refine j_iload_n C dX12_make_12 rfl rfl ?_
    refine j_i2l C dX12_make_13 ?_
    refine j_ldc2 (v := 2) C dX12_make_14 kl_RX12_325 ?_
    refine j_ldc2 (v := 3) C dX12_make_17 kl_RX12_167 ?_
    obtain ⟨p4, hP⟩ := hP
    refine j_callS C (MX12_isIn a1.toInt64 2 3 (hs h 0 0 0) p4) dX12_make_20 (CKX12_isIn (by decide)) ⟨rfl, rfl⟩ lk_RX12_169 st_X12_isIn rfl (Nat.le_of_ble_eq_true rfl) ?_
    intro r S' h' hq
    obtain ⟨rfl, hh, rfl, hb6⟩ := hq
    rw [hh]
    refine j_if_eq (tgt := 32) C dX12_make_23 (by decide) (fun c1 => ?_) (fun c1 => ?_)
    · have hP := hP.1 c1
      rw [if_pos c1] at hR
      refine j_iconst (v := (-1)) C dX12_make_32 (by decide) ?_
      exact hR _ _ dX12_make_33
    · have hP := hP.2 c1
      rw [if_neg c1] at hR
      refine j_iload_n C dX12_make_26 rfl rfl ?_
      refine j_bipush (v := 60) C dX12_make_27 (by decide) ?_
      refine j_icmp_le (tgt := 34) C dX12_make_29 (by decide) (fun c2 => ?_) (fun c2 => ?_)
      · have hP := hP.1 c2
        rw [if_pos c2] at hR
        refine j_iload_n C dX12_make_34 rfl rfl ?_
        refine j_if_ge (tgt := 41) C dX12_make_35 (by decide) (fun c3 => ?_) (fun c3 => ?_)
        · have hP := hP.1 c3
          rw [if_pos c3] at hR
          refine j_aload_n C dX12_make_41 rfl rfl ?_
          refine gM_146 C dX12_make_42 ?_
          refine j_iload_n C dX12_make_45 rfl rfl ?_
          refine j_iload_n C dX12_make_46 rfl rfl ?_
          obtain ⟨p4, hP⟩ := hP
          refine j_iast (k := 44) C dX12_make_47 (by decide) rfl p4 ?_
          refine j_aload_n C dX12_make_48 rfl rfl ?_
          refine gM_149 C dX12_make_49 ?_
          refine j_iload_n C dX12_make_52 rfl rfl ?_
          refine j_iload_n C dX12_make_53 rfl rfl ?_
          obtain ⟨p10, hP⟩ := hP
          refine j_iast (k := 45) C dX12_make_54 (by decide) rfl p10 ?_
          refine j_iconst (v := 0) C dX12_make_55 (by decide) ?_
          refine j_istore C dX12_make_56 (by decide) rfl ?_
          exact j_vl (tX12_make_58 C 2000 a0 a2 0 (hs (hs (hs h 0 0 0) 44 a0.toNatClampNeg a1) 45 a0.toNatClampNeg a2) hP hR) ⟨rfl, rfl, rfl, rfl, trivial⟩
        · have hP := hP.2 c3
          rw [if_neg c3] at hR
          refine j_bipush (v := (-14)) C dX12_make_38 (by decide) ?_
          exact hR _ _ dX12_make_40
      · have hP := hP.2 c2
        rw [if_neg c2] at hR
        refine j_iconst (v := (-1)) C dX12_make_32 (by decide) ?_
        exact hR _ _ dX12_make_33
theorem MX12_make {l0 : Launch} {Y : fj_Y} {ad : Nat → Nat} (a0 : Int32) (a1 : Int32) (a2 : Int32) (h : ph_H) (hP : PX12_make a0 a1 a2 h) : MI l0 yX12_make cX12_make 5 (some .int) ({ frames := 1, cells := 0, slots := 0, locals := 25 } : Room) Y ad 50 SM h [.ref (ad 0), .int a0, .int a1, .int a2] (fun r S' h' => S' = SM ∧ h' = (FX12_make a0 a1 a2 h).2 ∧ r = (FX12_make a0 a1 a2 h).1) := met_i (by decide) (Nat.le_of_ble_eq_true rfl) (fun _ _ _ _ => rfl) (fun X C K => j_vl (tX12_make C a0 a1 a2 h hP (fun pc lv hd => K _ _ _ ⟨rfl, rfl, rfl⟩ pc lv hd)) ⟨rfl, rfl, rfl, rfl, trivial⟩)

-- X12_element
def FX12_element_62  (x1 : Int32) (x2 : Int32) (x3 : Int32) (s0 : Int32) (h : ph_H) : Int32 × ph_H := if x3 = 0 then ((0, (hs h 0 0 s0))) else (((h 48 (((60 * x1) + x2).toNatClampNeg)), (hs h 0 0 s0)))
def PX12_element_62  (x1 : Int32) (x2 : Int32) (x3 : Int32) (s0 : Int32) (h : ph_H) : Prop := (x3 = 0 → (True)) ∧ (¬ x3 = 0 → (vp_in ((60 * x1) + x2) 480 ∧ (True)))
set_option maxRecDepth 100000 in
set_option maxHeartbeats 4000000 in
theorem tX12_element_62 {X : fj_X} {Y : fj_Y} {l0 : Launch} {ad : Nat → Nat} (C : FC X Y l0 cX12_element 4 RX12 ({ frames := 1, cells := 0, slots := 0, locals := 25 } : Room) 0 0 (some .int)) (x1 : Int32) (x2 : Int32) (x3 : Int32) (s0 : Int32) (h : ph_H) (hP : PX12_element_62  x1 x2 x3 s0 h) (hR : RETi X Y ad 50 SM cX12_element (FX12_element_62  x1 x2 x3 s0 h)) : FJ X Y ad 50 SM h 62 [(0, .ref (ad 0)), (1, .int x1), (2, .int x2), (3, .int x3)] [.int s0, .ref (ad 0)] := by
  unfold PX12_element_62 at hP
  unfold FX12_element_62 at hR
  refine pM_164 C dX12_element_62 ?_
  refine j_iload_n C dX12_element_65 rfl rfl ?_
  refine j_if_eq (tgt := 83) C dX12_element_66 (by decide) (fun c0 => ?_) (fun c0 => ?_)
  · have hP := hP.1 c0
    rw [if_pos c0] at hR
    refine j_iconst (v := 0) C dX12_element_83 (by decide) ?_
    exact hR _ _ dX12_element_84
  · have hP := hP.2 c0
    rw [if_neg c0] at hR
    refine j_aload_n C dX12_element_69 rfl rfl ?_
    refine gM_158 C dX12_element_70 ?_
    refine j_bipush (v := 60) C dX12_element_73 (by decide) ?_
    refine j_iload_n C dX12_element_75 rfl rfl ?_
    refine j_imul C dX12_element_76 ?_
    refine j_iload_n C dX12_element_77 rfl rfl ?_
    refine j_iadd C dX12_element_78 ?_
    obtain ⟨p7, hP⟩ := hP
    refine j_iald (k := 48) (v := (h 48 (((60 * x1) + x2).toNatClampNeg))) C dX12_element_79 (by decide) rfl p7 (hz_k (by decide)) ?_
    refine j_goto (tgt := 84) C dX12_element_80 (by decide) ?_
    exact hR _ _ dX12_element_84
def FX12_element_40  (x1 : Int32) (x2 : Int32) (s0 : Int32) (h : ph_H) : Int32 × ph_H := if (FX12_isShelf x1) = 0 then (FX12_element_62  x1 x2 s0 1 h) else (if s0 = 0 then (FX12_element_62  x1 x2 s0 2 h) else (FX12_element_62  x1 x2 s0 0 h))
def PX12_element_40  (x1 : Int32) (x2 : Int32) (s0 : Int32) (h : ph_H) : Prop := (PX12_isShelf x1) ∧ (((FX12_isShelf x1) = 0 → (PX12_element_62  x1 x2 s0 1 h)) ∧ (¬ (FX12_isShelf x1) = 0 → ((s0 = 0 → (PX12_element_62  x1 x2 s0 2 h)) ∧ (¬ s0 = 0 → (PX12_element_62  x1 x2 s0 0 h)))))
set_option maxRecDepth 100000 in
set_option maxHeartbeats 4000000 in
theorem tX12_element_40 {X : fj_X} {Y : fj_Y} {l0 : Launch} {ad : Nat → Nat} (C : FC X Y l0 cX12_element 4 RX12 ({ frames := 1, cells := 0, slots := 0, locals := 25 } : Room) 0 0 (some .int)) (x1 : Int32) (x2 : Int32) (s0 : Int32) (h : ph_H) (hP : PX12_element_40  x1 x2 s0 h) (hR : RETi X Y ad 50 SM cX12_element (FX12_element_40  x1 x2 s0 h)) : FJ X Y ad 50 SM h 40 [(0, .ref (ad 0)), (1, .int x1), (2, .int x2)] [.int s0] := by
  unfold PX12_element_40 at hP
  unfold FX12_element_40 at hR
  refine j_istore_n C dX12_element_40 rfl (by decide) rfl ?_
  refine j_aload_n C dX12_element_41 rfl rfl ?_
  refine j_iload_n C dX12_element_42 rfl rfl ?_
  obtain ⟨p3, hP⟩ := hP
  refine j_callS C (MX12_isShelf x1 h p3) dX12_element_43 (CKX12_isShelf (by decide)) ⟨rfl, rfl⟩ lk_RX12_374 st_X12_isShelf rfl (Nat.le_of_ble_eq_true rfl) ?_
  intro r S' h' hq
  obtain ⟨rfl, hh, rfl, hb5⟩ := hq
  rw [hh]
  refine j_if_ne (tgt := 53) C dX12_element_46 (by decide) (fun c0 => ?_) (fun c0 => ?_)
  · have hP := hP.2 c0
    rw [if_neg c0] at hR
    refine j_iload_n C dX12_element_53 rfl rfl ?_
    refine j_if_eq (tgt := 61) C dX12_element_54 (by decide) (fun c1 => ?_) (fun c1 => ?_)
    · have hP := hP.1 c1
      rw [if_pos c1] at hR
      refine j_iconst (v := 2) C dX12_element_61 (by decide) ?_
      exact j_vl (tX12_element_62 C  x1 x2 s0 2 h hP hR) ⟨rfl, rfl, rfl, rfl, trivial⟩
    · have hP := hP.2 c1
      rw [if_neg c1] at hR
      refine j_iconst (v := 0) C dX12_element_57 (by decide) ?_
      refine j_goto (tgt := 62) C dX12_element_58 (by decide) ?_
      exact j_vl (tX12_element_62 C  x1 x2 s0 0 h hP hR) ⟨rfl, rfl, rfl, rfl, trivial⟩
  · have hP := hP.1 c0
    rw [if_pos c0] at hR
    refine j_iconst (v := 1) C dX12_element_49 (by decide) ?_
    refine j_goto (tgt := 62) C dX12_element_50 (by decide) ?_
    exact j_vl (tX12_element_62 C  x1 x2 s0 1 h hP hR) ⟨rfl, rfl, rfl, rfl, trivial⟩
def FX12_element_39  (x1 : Int32) (x2 : Int32) (h : ph_H) : Int32 × ph_H := FX12_element_40  x1 x2 0 h
def PX12_element_39  (x1 : Int32) (x2 : Int32) (h : ph_H) : Prop := PX12_element_40  x1 x2 0 h
set_option maxRecDepth 100000 in
set_option maxHeartbeats 4000000 in
theorem tX12_element_39 {X : fj_X} {Y : fj_Y} {l0 : Launch} {ad : Nat → Nat} (C : FC X Y l0 cX12_element 4 RX12 ({ frames := 1, cells := 0, slots := 0, locals := 25 } : Room) 0 0 (some .int)) (x1 : Int32) (x2 : Int32) (h : ph_H) (hP : PX12_element_39  x1 x2 h) (hR : RETi X Y ad 50 SM cX12_element (FX12_element_39  x1 x2 h)) : FJ X Y ad 50 SM h 39 [(0, .ref (ad 0)), (1, .int x1), (2, .int x2)] [] := by
  unfold PX12_element_39 at hP
  unfold FX12_element_39 at hR
  refine j_iconst (v := 0) C dX12_element_39 (by decide) ?_
  exact j_vl (tX12_element_40 C  x1 x2 0 h hP hR) ⟨rfl, rfl, rfl, trivial⟩
def FX12_element (a0 : Int32) (a1 : Int32) (h : ph_H) : Int32 × ph_H := if (FX12_isShelf a0) = 0 then (FX12_element_39  a0 a1 h) else (if (h 44 (a0.toNatClampNeg)) ≤ 1 then (FX12_element_39  a0 a1 h) else (if (FX12_isIn a1.toInt64 0 (((h 45 (a0.toNatClampNeg)) - 1).toInt64)) = 0 then (FX12_element_39  a0 a1 h) else (FX12_element_40  a0 a1 1 h)))
def PX12_element (a0 : Int32) (a1 : Int32) (h : ph_H) : Prop := (PX12_isShelf a0) ∧ (((FX12_isShelf a0) = 0 → (PX12_element_39  a0 a1 h)) ∧ (¬ (FX12_isShelf a0) = 0 → (vp_in a0 8 ∧ (((h 44 (a0.toNatClampNeg)) ≤ 1 → (PX12_element_39  a0 a1 h)) ∧ (¬ (h 44 (a0.toNatClampNeg)) ≤ 1 → (vp_in a0 8 ∧ ((PX12_isIn a1.toInt64 0 (((h 45 (a0.toNatClampNeg)) - 1).toInt64)) ∧ (((FX12_isIn a1.toInt64 0 (((h 45 (a0.toNatClampNeg)) - 1).toInt64)) = 0 → (PX12_element_39  a0 a1 h)) ∧ (¬ (FX12_isIn a1.toInt64 0 (((h 45 (a0.toNatClampNeg)) - 1).toInt64)) = 0 → (PX12_element_40  a0 a1 1 h))))))))))
set_option maxRecDepth 100000 in
set_option maxHeartbeats 4000000 in
theorem tX12_element {X : fj_X} {Y : fj_Y} {l0 : Launch} {ad : Nat → Nat} (C : FC X Y l0 cX12_element 4 RX12 ({ frames := 1, cells := 0, slots := 0, locals := 25 } : Room) 0 0 (some .int)) (a0 : Int32) (a1 : Int32) (h : ph_H) (hP : PX12_element a0 a1 h) (hR : RETi X Y ad 50 SM cX12_element (FX12_element a0 a1 h)) : FJ X Y ad 50 SM h 0 [(0, .ref (ad 0)), (1, .int a0), (2, .int a1)] [] := by
  unfold PX12_element at hP
  unfold FX12_element at hR
  refine j_iload_n C dX12_element_0 rfl rfl ?_
  obtain ⟨p1, hP⟩ := hP
  refine j_callS C (MX12_isShelf a0 h p1) dX12_element_1 (CKX12_isShelf (by decide)) ⟨rfl, rfl⟩ lk_RX12_374 st_X12_isShelf rfl (Nat.le_of_ble_eq_true rfl) ?_
  intro r S' h' hq
  obtain ⟨rfl, hh, rfl, hb3⟩ := hq
  rw [hh]
  refine j_if_eq (tgt := 39) C dX12_element_4 (by decide) (fun c0 => ?_) (fun c0 => ?_)
  · have hP := hP.1 c0
    rw [if_pos c0] at hR
    exact j_vl (tX12_element_39 C  a0 a1 h hP hR) ⟨rfl, rfl, rfl, trivial⟩
  · have hP := hP.2 c0
    rw [if_neg c0] at hR
    refine j_aload_n C dX12_element_7 rfl rfl ?_
    refine gM_146 C dX12_element_8 ?_
    refine j_iload_n C dX12_element_11 rfl rfl ?_
    obtain ⟨p3, hP⟩ := hP
    refine j_iald (k := 44) (v := (h 44 (a0.toNatClampNeg))) C dX12_element_12 (by decide) rfl p3 rfl ?_
    refine j_iconst (v := 1) C dX12_element_13 (by decide) ?_
    refine j_icmp_le (tgt := 39) C dX12_element_14 (by decide) (fun c1 => ?_) (fun c1 => ?_)
    · have hP := hP.1 c1
      rw [if_pos c1] at hR
      exact j_vl (tX12_element_39 C  a0 a1 h hP hR) ⟨rfl, rfl, rfl, trivial⟩
    · have hP := hP.2 c1
      rw [if_neg c1] at hR
      refine j_iload_n C dX12_element_17 rfl rfl ?_
      refine j_i2l C dX12_element_18 ?_
      refine j_lconst (v := 0) C dX12_element_19 (by decide) ?_
      refine j_aload_n C dX12_element_20 rfl rfl ?_
      refine gM_149 C dX12_element_21 ?_
      refine j_iload_n C dX12_element_24 rfl rfl ?_
      obtain ⟨p6, hP⟩ := hP
      refine j_iald (k := 45) (v := (h 45 (a0.toNatClampNeg))) C dX12_element_25 (by decide) rfl p6 rfl ?_
      refine j_iconst (v := 1) C dX12_element_26 (by decide) ?_
      refine j_isub C dX12_element_27 ?_
      refine j_i2l C dX12_element_28 ?_
      obtain ⟨p11, hP⟩ := hP
      refine j_callS C (MX12_isIn a1.toInt64 0 (((h 45 (a0.toNatClampNeg)) - 1).toInt64) h p11) dX12_element_29 (CKX12_isIn (by decide)) ⟨rfl, rfl⟩ lk_RX12_169 st_X12_isIn rfl (Nat.le_of_ble_eq_true rfl) ?_
      intro r S' h' hq
      obtain ⟨rfl, hh, rfl, hb13⟩ := hq
      rw [hh]
      refine j_if_eq (tgt := 39) C dX12_element_32 (by decide) (fun c2 => ?_) (fun c2 => ?_)
      · have hP := hP.1 c2
        rw [if_pos c2] at hR
        exact j_vl (tX12_element_39 C  a0 a1 h hP hR) ⟨rfl, rfl, rfl, trivial⟩
      · have hP := hP.2 c2
        rw [if_neg c2] at hR
        refine j_iconst (v := 1) C dX12_element_35 (by decide) ?_
        refine j_goto (tgt := 40) C dX12_element_36 (by decide) ?_
        exact j_vl (tX12_element_40 C  a0 a1 1 h hP hR) ⟨rfl, rfl, rfl, trivial⟩
theorem MX12_element {l0 : Launch} {Y : fj_Y} {ad : Nat → Nat} (a0 : Int32) (a1 : Int32) (h : ph_H) (hP : PX12_element a0 a1 h) : MI l0 yX12_element cX12_element 4 (some .int) ({ frames := 1, cells := 0, slots := 0, locals := 25 } : Room) Y ad 50 SM h [.ref (ad 0), .int a0, .int a1] (fun r S' h' => S' = SM ∧ h' = (FX12_element a0 a1 h).2 ∧ r = (FX12_element a0 a1 h).1) := met_i (by decide) (Nat.le_of_ble_eq_true rfl) (fun _ _ _ _ => rfl) (fun X C K => j_vl (tX12_element C a0 a1 h hP (fun pc lv hd => K _ _ _ ⟨rfl, rfl, rfl⟩ pc lv hd)) ⟨rfl, rfl, rfl, trivial⟩)

-- X12_hasPlaces
def FX12_hasPlaces (a0 : Int32) (a1 : Int32) (a2 : Int32) (h : ph_H) : Int32 := if a2 < 0 then (0) else (if a1 < 0 then (0) else (if (h 45 (a0.toNatClampNeg)) < a1 then (0) else (if ((h 45 (a0.toNatClampNeg)) - a1) < a2 then (0) else (1))))
def PX12_hasPlaces (a0 : Int32) (a1 : Int32) (a2 : Int32) (h : ph_H) : Prop := (a2 < 0 → (True)) ∧ (¬ a2 < 0 → ((a1 < 0 → (True)) ∧ (¬ a1 < 0 → (vp_in a0 8 ∧ (((h 45 (a0.toNatClampNeg)) < a1 → (True)) ∧ (¬ (h 45 (a0.toNatClampNeg)) < a1 → (vp_in a0 8 ∧ ((((h 45 (a0.toNatClampNeg)) - a1) < a2 → (True)) ∧ (¬ ((h 45 (a0.toNatClampNeg)) - a1) < a2 → (True))))))))))
set_option maxRecDepth 100000 in
set_option maxHeartbeats 4000000 in
theorem tX12_hasPlaces {X : fj_X} {Y : fj_Y} {l0 : Launch} {ad : Nat → Nat} (C : FC X Y l0 cX12_hasPlaces 4 RX12 ({ frames := 0, cells := 0, slots := 0, locals := 0 } : Room) 0 0 (some .boolean)) (a0 : Int32) (a1 : Int32) (a2 : Int32) (h : ph_H) (hP : PX12_hasPlaces a0 a1 a2 h) (hR : RETq X Y ad 50 SM h cX12_hasPlaces (FX12_hasPlaces a0 a1 a2 h)) : FJ X Y ad 50 SM h 0 [(0, .ref (ad 0)), (1, .int a0), (2, .int a1), (3, .int a2)] [] := by
  unfold PX12_hasPlaces at hP
  unfold FX12_hasPlaces at hR
  refine j_iload_n C dX12_hasPlaces_0 rfl rfl ?_
  refine j_if_lt (tgt := 34) C dX12_hasPlaces_1 (by decide) (fun c0 => ?_) (fun c0 => ?_)
  · have hP := hP.1 c0
    rw [if_pos c0] at hR
    refine j_iconst (v := 0) C dX12_hasPlaces_34 (by decide) ?_
    exact hR bo_0 _ _ dX12_hasPlaces_35
  · have hP := hP.2 c0
    rw [if_neg c0] at hR
    refine j_iload_n C dX12_hasPlaces_4 rfl rfl ?_
    refine j_if_lt (tgt := 34) C dX12_hasPlaces_5 (by decide) (fun c1 => ?_) (fun c1 => ?_)
    · have hP := hP.1 c1
      rw [if_pos c1] at hR
      refine j_iconst (v := 0) C dX12_hasPlaces_34 (by decide) ?_
      exact hR bo_0 _ _ dX12_hasPlaces_35
    · have hP := hP.2 c1
      rw [if_neg c1] at hR
      refine j_iload_n C dX12_hasPlaces_8 rfl rfl ?_
      refine j_aload_n C dX12_hasPlaces_9 rfl rfl ?_
      refine gM_149 C dX12_hasPlaces_10 ?_
      refine j_iload_n C dX12_hasPlaces_13 rfl rfl ?_
      obtain ⟨p4, hP⟩ := hP
      refine j_iald (k := 45) (v := (h 45 (a0.toNatClampNeg))) C dX12_hasPlaces_14 (by decide) rfl p4 rfl ?_
      refine j_icmp_gt (tgt := 34) C dX12_hasPlaces_15 (by decide) (fun c2 => ?_) (fun c2 => ?_)
      · have hP := hP.1 c2
        rw [if_pos c2] at hR
        refine j_iconst (v := 0) C dX12_hasPlaces_34 (by decide) ?_
        exact hR bo_0 _ _ dX12_hasPlaces_35
      · have hP := hP.2 c2
        rw [if_neg c2] at hR
        refine j_iload_n C dX12_hasPlaces_18 rfl rfl ?_
        refine j_aload_n C dX12_hasPlaces_19 rfl rfl ?_
        refine gM_149 C dX12_hasPlaces_20 ?_
        refine j_iload_n C dX12_hasPlaces_23 rfl rfl ?_
        obtain ⟨p4, hP⟩ := hP
        refine j_iald (k := 45) (v := (h 45 (a0.toNatClampNeg))) C dX12_hasPlaces_24 (by decide) rfl p4 rfl ?_
        refine j_iload_n C dX12_hasPlaces_25 rfl rfl ?_
        refine j_isub C dX12_hasPlaces_26 ?_
        refine j_icmp_gt (tgt := 34) C dX12_hasPlaces_27 (by decide) (fun c3 => ?_) (fun c3 => ?_)
        · have hP := hP.1 c3
          rw [if_pos c3] at hR
          refine j_iconst (v := 0) C dX12_hasPlaces_34 (by decide) ?_
          exact hR bo_0 _ _ dX12_hasPlaces_35
        · have hP := hP.2 c3
          rw [if_neg c3] at hR
          refine j_iconst (v := 1) C dX12_hasPlaces_30 (by decide) ?_
          refine j_goto (tgt := 35) C dX12_hasPlaces_31 (by decide) ?_
          exact hR bo_1 _ _ dX12_hasPlaces_35
theorem MX12_hasPlaces {l0 : Launch} {Y : fj_Y} {ad : Nat → Nat} (a0 : Int32) (a1 : Int32) (a2 : Int32) (h : ph_H) (hP : PX12_hasPlaces a0 a1 a2 h) : MI l0 yX12_hasPlaces cX12_hasPlaces 4 (some .boolean) ({ frames := 0, cells := 0, slots := 0, locals := 0 } : Room) Y ad 50 SM h [.ref (ad 0), .int a0, .int a1, .int a2] (fun r S' h' => S' = SM ∧ h' = h ∧ r = FX12_hasPlaces a0 a1 a2 h ∧ bo r) := met_i (by decide) (Nat.le_of_ble_eq_true rfl) (fun _ _ _ q => bo_n q.2.2.2) (fun X C K => j_vl (tX12_hasPlaces C a0 a1 a2 h hP (fun b pc lv hd => K _ _ _ ⟨rfl, rfl, rfl, b⟩ pc lv hd)) ⟨rfl, rfl, rfl, rfl, trivial⟩)

-- X12_copy
def FX12_copy_136  : Nat → Int32 → Int32 → Int32 → Int32 → ph_H → Int32 × ph_H
  | 0, _, _, _, _, h => (0, h)
  | q + 1, x3, x4, x5, x6, h => if x5 ≤ x6 then ((x5, h)) else (FX12_copy_136  q x3 x4 x5 (x6 + 1) (hs h 48 (((60 * x3) + x4) + x6).toNatClampNeg (h 49 (x6.toNatClampNeg))))
def PX12_copy_136  : Nat → Int32 → Int32 → Int32 → Int32 → ph_H → Prop
  | 0, _, _, _, _, _ => False
  | q + 1, x3, x4, x5, x6, h => (x5 ≤ x6 → (True)) ∧ (¬ x5 ≤ x6 → (vp_in x6 60 ∧ (vp_in (((60 * x3) + x4) + x6) 480 ∧ (PX12_copy_136  q x3 x4 x5 (x6 + 1) (hs h 48 (((60 * x3) + x4) + x6).toNatClampNeg (h 49 (x6.toNatClampNeg)))))))
set_option maxRecDepth 100000 in
set_option maxHeartbeats 4000000 in
theorem tX12_copy_136 {X : fj_X} {Y : fj_Y} {l0 : Launch} {ad : Nat → Nat} (C : FC X Y l0 cX12_copy 7 RX12 ({ frames := 1, cells := 0, slots := 0, locals := 23 } : Room) 0 0 (some .int)) : ∀ (q : Nat) (x3 : Int32) (x4 : Int32) (x5 : Int32) (x6 : Int32) (h : ph_H), PX12_copy_136  q x3 x4 x5 x6 h → RETi X Y ad 50 SM cX12_copy (FX12_copy_136  q x3 x4 x5 x6 h) → FJ X Y ad 50 SM h 136 [(0, .ref (ad 0)), (3, .int x3), (4, .int x4), (5, .int x5), (6, .int x6)] [] := by
  intro q
  induction q with
  | zero =>
    intro x3 x4 x5 x6 h hP hR
    exact absurd hP id
  | succ q ih =>
    intro x3 x4 x5 x6 h hP hR
    unfold PX12_copy_136 at hP
    unfold FX12_copy_136 at hR
    refine j_iload C dX12_copy_136 rfl ?_
    refine j_iload C dX12_copy_138 rfl ?_
    refine j_icmp_ge (tgt := 171) C dX12_copy_140 (by decide) (fun c0 => ?_) (fun c0 => ?_)
    · have hP := hP.1 c0
      rw [if_pos c0] at hR
      refine j_iload C dX12_copy_171 rfl ?_
      exact hR _ _ dX12_copy_173
    · have hP := hP.2 c0
      rw [if_neg c0] at hR
      refine j_aload_n C dX12_copy_143 rfl rfl ?_
      refine gM_158 C dX12_copy_144 ?_
      refine j_bipush (v := 60) C dX12_copy_147 (by decide) ?_
      refine j_iload_n C dX12_copy_149 rfl rfl ?_
      refine j_imul C dX12_copy_150 ?_
      refine j_iload C dX12_copy_151 rfl ?_
      refine j_iadd C dX12_copy_153 ?_
      refine j_iload C dX12_copy_154 rfl ?_
      refine j_iadd C dX12_copy_156 ?_
      refine j_aload_n C dX12_copy_157 rfl rfl ?_
      refine gM_161 C dX12_copy_158 ?_
      refine j_iload C dX12_copy_161 rfl ?_
      obtain ⟨p12, hP⟩ := hP
      refine j_iald (k := 49) (v := (h 49 (x6.toNatClampNeg))) C dX12_copy_163 (by decide) rfl p12 rfl ?_
      obtain ⟨p14, hP⟩ := hP
      refine j_iast (k := 48) C dX12_copy_164 (by decide) rfl p14 ?_
      refine j_iinc (v := (x6 + 1)) C dX12_copy_165 rfl rfl (by decide) rfl ?_
      refine j_goto (tgt := 136) C dX12_copy_168 (by decide) ?_
      exact j_vl (ih x3 x4 x5 (x6 + 1) (hs h 48 (((60 * x3) + x4) + x6).toNatClampNeg (h 49 (x6.toNatClampNeg))) hP hR) ⟨rfl, rfl, rfl, rfl, rfl, trivial⟩
def FX12_copy_99  : Nat → Int32 → Int32 → Int32 → Int32 → Int32 → Int32 → ph_H → Int32 × ph_H
  | 0, _, _, _, _, _, _, h => (0, h)
  | q + 1, x1, x2, x3, x4, x5, x6, h => if x5 ≤ x6 then (FX12_copy_136 2000 x3 x4 x5 0 h) else (FX12_copy_99  q x1 x2 x3 x4 x5 (x6 + 1) (hs h 49 x6.toNatClampNeg (h 48 ((((60 * x1) + x2) + x6).toNatClampNeg))))
def PX12_copy_99  : Nat → Int32 → Int32 → Int32 → Int32 → Int32 → Int32 → ph_H → Prop
  | 0, _, _, _, _, _, _, _ => False
  | q + 1, x1, x2, x3, x4, x5, x6, h => (x5 ≤ x6 → (PX12_copy_136 2000 x3 x4 x5 0 h)) ∧ (¬ x5 ≤ x6 → (vp_in (((60 * x1) + x2) + x6) 480 ∧ (vp_in x6 60 ∧ (PX12_copy_99  q x1 x2 x3 x4 x5 (x6 + 1) (hs h 49 x6.toNatClampNeg (h 48 ((((60 * x1) + x2) + x6).toNatClampNeg)))))))
set_option maxRecDepth 100000 in
set_option maxHeartbeats 4000000 in
theorem tX12_copy_99 {X : fj_X} {Y : fj_Y} {l0 : Launch} {ad : Nat → Nat} (C : FC X Y l0 cX12_copy 7 RX12 ({ frames := 1, cells := 0, slots := 0, locals := 23 } : Room) 0 0 (some .int)) : ∀ (q : Nat) (x1 : Int32) (x2 : Int32) (x3 : Int32) (x4 : Int32) (x5 : Int32) (x6 : Int32) (h : ph_H), PX12_copy_99  q x1 x2 x3 x4 x5 x6 h → RETi X Y ad 50 SM cX12_copy (FX12_copy_99  q x1 x2 x3 x4 x5 x6 h) → FJ X Y ad 50 SM h 99 [(0, .ref (ad 0)), (1, .int x1), (2, .int x2), (3, .int x3), (4, .int x4), (5, .int x5), (6, .int x6)] [] := by
  intro q
  induction q with
  | zero =>
    intro x1 x2 x3 x4 x5 x6 h hP hR
    exact absurd hP id
  | succ q ih =>
    intro x1 x2 x3 x4 x5 x6 h hP hR
    unfold PX12_copy_99 at hP
    unfold FX12_copy_99 at hR
    refine j_iload C dX12_copy_99 rfl ?_
    refine j_iload C dX12_copy_101 rfl ?_
    refine j_icmp_ge (tgt := 133) C dX12_copy_103 (by decide) (fun c0 => ?_) (fun c0 => ?_)
    · have hP := hP.1 c0
      rw [if_pos c0] at hR
      refine j_iconst (v := 0) C dX12_copy_133 (by decide) ?_
      refine j_istore C dX12_copy_134 (by decide) rfl ?_
      exact j_vl (tX12_copy_136 C 2000 x3 x4 x5 0 h hP hR) ⟨rfl, rfl, rfl, rfl, rfl, trivial⟩
    · have hP := hP.2 c0
      rw [if_neg c0] at hR
      refine j_aload_n C dX12_copy_106 rfl rfl ?_
      refine gM_161 C dX12_copy_107 ?_
      refine j_iload C dX12_copy_110 rfl ?_
      refine j_aload_n C dX12_copy_112 rfl rfl ?_
      refine gM_158 C dX12_copy_113 ?_
      refine j_bipush (v := 60) C dX12_copy_116 (by decide) ?_
      refine j_iload_n C dX12_copy_118 rfl rfl ?_
      refine j_imul C dX12_copy_119 ?_
      refine j_iload_n C dX12_copy_120 rfl rfl ?_
      refine j_iadd C dX12_copy_121 ?_
      refine j_iload C dX12_copy_122 rfl ?_
      refine j_iadd C dX12_copy_124 ?_
      obtain ⟨p12, hP⟩ := hP
      refine j_iald (k := 48) (v := (h 48 ((((60 * x1) + x2) + x6).toNatClampNeg))) C dX12_copy_125 (by decide) rfl p12 rfl ?_
      obtain ⟨p14, hP⟩ := hP
      refine j_iast (k := 49) C dX12_copy_126 (by decide) rfl p14 ?_
      refine j_iinc (v := (x6 + 1)) C dX12_copy_127 rfl rfl (by decide) rfl ?_
      refine j_goto (tgt := 99) C dX12_copy_130 (by decide) ?_
      exact j_vl (ih x1 x2 x3 x4 x5 (x6 + 1) (hs h 49 x6.toNatClampNeg (h 48 ((((60 * x1) + x2) + x6).toNatClampNeg))) hP hR) ⟨rfl, rfl, rfl, rfl, rfl, rfl, rfl, trivial⟩
def FX12_copy (a0 : Int32) (a1 : Int32) (a2 : Int32) (a3 : Int32) (a4 : Int32) (h : ph_H) : Int32 × ph_H := if (FX12_isShelf a0) = 0 then (((-1), (hs h 0 0 0))) else (if (FX12_isShelf a2) = 0 then (((-1), (hs h 0 0 0))) else (if (h 44 (a0.toNatClampNeg)) = 0 then (((-11), (hs h 0 0 0))) else (if (h 44 (a2.toNatClampNeg)) = 0 then (((-11), (hs h 0 0 0))) else (if (h 44 (a0.toNatClampNeg)) < 2 then (((-12), (hs h 0 0 0))) else (if (h 44 (a0.toNatClampNeg)) = (h 44 (a2.toNatClampNeg)) then (if (FX12_hasPlaces a0 a1 a4 (hs h 0 0 0)) = 0 then (((-13), (hs h 0 0 0))) else (if (FX12_hasPlaces a2 a3 a4 (hs h 0 0 0)) = 0 then (((-13), (hs h 0 0 0))) else (FX12_copy_99 2000 a0 a1 a2 a3 a4 0 (hs h 0 0 0)))) else (((-12), (hs h 0 0 0))))))))
def PX12_copy (a0 : Int32) (a1 : Int32) (a2 : Int32) (a3 : Int32) (a4 : Int32) (h : ph_H) : Prop := (PX12_isShelf a0) ∧ (((FX12_isShelf a0) = 0 → (True)) ∧ (¬ (FX12_isShelf a0) = 0 → ((PX12_isShelf a2) ∧ (((FX12_isShelf a2) = 0 → (True)) ∧ (¬ (FX12_isShelf a2) = 0 → (vp_in a0 8 ∧ (((h 44 (a0.toNatClampNeg)) = 0 → (True)) ∧ (¬ (h 44 (a0.toNatClampNeg)) = 0 → (vp_in a2 8 ∧ (((h 44 (a2.toNatClampNeg)) = 0 → (True)) ∧ (¬ (h 44 (a2.toNatClampNeg)) = 0 → (vp_in a0 8 ∧ (((h 44 (a0.toNatClampNeg)) < 2 → (True)) ∧ (¬ (h 44 (a0.toNatClampNeg)) < 2 → (vp_in a0 8 ∧ (vp_in a2 8 ∧ (((h 44 (a0.toNatClampNeg)) = (h 44 (a2.toNatClampNeg)) → ((PX12_hasPlaces a0 a1 a4 (hs h 0 0 0)) ∧ (((FX12_hasPlaces a0 a1 a4 (hs h 0 0 0)) = 0 → (True)) ∧ (¬ (FX12_hasPlaces a0 a1 a4 (hs h 0 0 0)) = 0 → ((PX12_hasPlaces a2 a3 a4 (hs h 0 0 0)) ∧ (((FX12_hasPlaces a2 a3 a4 (hs h 0 0 0)) = 0 → (True)) ∧ (¬ (FX12_hasPlaces a2 a3 a4 (hs h 0 0 0)) = 0 → (PX12_copy_99 2000 a0 a1 a2 a3 a4 0 (hs h 0 0 0))))))))) ∧ (¬ (h 44 (a0.toNatClampNeg)) = (h 44 (a2.toNatClampNeg)) → (True)))))))))))))))))))
set_option maxRecDepth 100000 in
set_option maxHeartbeats 4000000 in
theorem tX12_copy {X : fj_X} {Y : fj_Y} {l0 : Launch} {ad : Nat → Nat} (C : FC X Y l0 cX12_copy 7 RX12 ({ frames := 1, cells := 0, slots := 0, locals := 23 } : Room) 0 0 (some .int)) (a0 : Int32) (a1 : Int32) (a2 : Int32) (a3 : Int32) (a4 : Int32) (h : ph_H) (hP : PX12_copy a0 a1 a2 a3 a4 h) (hR : RETi X Y ad 50 SM cX12_copy (FX12_copy a0 a1 a2 a3 a4 h)) : FJ X Y ad 50 SM h 0 [(0, .ref (ad 0)), (1, .int a0), (2, .int a1), (3, .int a2), (4, .int a3), (5, .int a4)] [] := by
  unfold PX12_copy at hP
  unfold FX12_copy at hR
  refine j_aload_n C dX12_copy_0 rfl rfl ?_
  refine j_iconst (v := 0) C dX12_copy_1 (by decide) ?_
  refine pM_164 C dX12_copy_2 ?_
  refine j_iload_n C dX12_copy_5 rfl rfl ?_
  obtain ⟨p4, hP⟩ := hP
  refine j_callS C (MX12_isShelf a0 (hs h 0 0 0) p4) dX12_copy_6 (CKX12_isShelf (by decide)) ⟨rfl, rfl⟩ lk_RX12_374 st_X12_isShelf rfl (Nat.le_of_ble_eq_true rfl) ?_
  intro r S' h' hq
  obtain ⟨rfl, hh, rfl, hb6⟩ := hq
  rw [hh]
  refine j_if_eq (tgt := 19) C dX12_copy_9 (by decide) (fun c0 => ?_) (fun c0 => ?_)
  · have hP := hP.1 c0
    rw [if_pos c0] at hR
    refine j_iconst (v := (-1)) C dX12_copy_19 (by decide) ?_
    exact hR _ _ dX12_copy_20
  · have hP := hP.2 c0
    rw [if_neg c0] at hR
    refine j_iload_n C dX12_copy_12 rfl rfl ?_
    obtain ⟨p1, hP⟩ := hP
    refine j_callS C (MX12_isShelf a2 (hs h 0 0 0) p1) dX12_copy_13 (CKX12_isShelf (by decide)) ⟨rfl, rfl⟩ lk_RX12_374 st_X12_isShelf rfl (Nat.le_of_ble_eq_true rfl) ?_
    intro r S' h' hq
    obtain ⟨rfl, hh, rfl, hb3⟩ := hq
    rw [hh]
    refine j_if_ne (tgt := 21) C dX12_copy_16 (by decide) (fun c1 => ?_) (fun c1 => ?_)
    · have hP := hP.2 c1
      rw [if_neg c1] at hR
      refine j_aload_n C dX12_copy_21 rfl rfl ?_
      refine gM_146 C dX12_copy_22 ?_
      refine j_iload_n C dX12_copy_25 rfl rfl ?_
      obtain ⟨p3, hP⟩ := hP
      refine j_iald (k := 44) (v := (h 44 (a0.toNatClampNeg))) C dX12_copy_26 (by decide) rfl p3 (hz_k (by decide)) ?_
      refine j_if_eq (tgt := 39) C dX12_copy_27 (by decide) (fun c2 => ?_) (fun c2 => ?_)
      · have hP := hP.1 c2
        rw [if_pos c2] at hR
        refine j_bipush (v := (-11)) C dX12_copy_39 (by decide) ?_
        exact hR _ _ dX12_copy_41
      · have hP := hP.2 c2
        rw [if_neg c2] at hR
        refine j_aload_n C dX12_copy_30 rfl rfl ?_
        refine gM_146 C dX12_copy_31 ?_
        refine j_iload_n C dX12_copy_34 rfl rfl ?_
        obtain ⟨p3, hP⟩ := hP
        refine j_iald (k := 44) (v := (h 44 (a2.toNatClampNeg))) C dX12_copy_35 (by decide) rfl p3 (hz_k (by decide)) ?_
        refine j_if_ne (tgt := 42) C dX12_copy_36 (by decide) (fun c3 => ?_) (fun c3 => ?_)
        · have hP := hP.2 c3
          rw [if_neg c3] at hR
          refine j_aload_n C dX12_copy_42 rfl rfl ?_
          refine gM_146 C dX12_copy_43 ?_
          refine j_iload_n C dX12_copy_46 rfl rfl ?_
          obtain ⟨p3, hP⟩ := hP
          refine j_iald (k := 44) (v := (h 44 (a0.toNatClampNeg))) C dX12_copy_47 (by decide) rfl p3 (hz_k (by decide)) ?_
          refine j_iconst (v := 2) C dX12_copy_48 (by decide) ?_
          refine j_icmp_lt (tgt := 67) C dX12_copy_49 (by decide) (fun c4 => ?_) (fun c4 => ?_)
          · have hP := hP.1 c4
            rw [if_pos c4] at hR
            refine j_bipush (v := (-12)) C dX12_copy_67 (by decide) ?_
            exact hR _ _ dX12_copy_69
          · have hP := hP.2 c4
            rw [if_neg c4] at hR
            refine j_aload_n C dX12_copy_52 rfl rfl ?_
            refine gM_146 C dX12_copy_53 ?_
            refine j_iload_n C dX12_copy_56 rfl rfl ?_
            obtain ⟨p3, hP⟩ := hP
            refine j_iald (k := 44) (v := (h 44 (a0.toNatClampNeg))) C dX12_copy_57 (by decide) rfl p3 (hz_k (by decide)) ?_
            refine j_aload_n C dX12_copy_58 rfl rfl ?_
            refine gM_146 C dX12_copy_59 ?_
            refine j_iload_n C dX12_copy_62 rfl rfl ?_
            obtain ⟨p8, hP⟩ := hP
            refine j_iald (k := 44) (v := (h 44 (a2.toNatClampNeg))) C dX12_copy_63 (by decide) rfl p8 (hz_k (by decide)) ?_
            refine j_icmp_eq (tgt := 70) C dX12_copy_64 (by decide) (fun c5 => ?_) (fun c5 => ?_)
            · have hP := hP.1 c5
              rw [if_pos c5] at hR
              refine j_aload_n C dX12_copy_70 rfl rfl ?_
              refine j_iload_n C dX12_copy_71 rfl rfl ?_
              refine j_iload_n C dX12_copy_72 rfl rfl ?_
              refine j_iload C dX12_copy_73 rfl ?_
              obtain ⟨p4, hP⟩ := hP
              refine j_callV C (MX12_hasPlaces a0 a1 a4 (hs h 0 0 0) p4) dX12_copy_75 (CKX12_hasPlaces (by decide)) ⟨rfl, rfl⟩ lk_RX12_377 in_X12_hasPlaces se_X12_hasPlaces (by decide) rfl rfl rfl (Nat.le_of_ble_eq_true rfl) ?_
              intro r S' h' hq
              obtain ⟨rfl, hh, rfl, hb6⟩ := hq
              rw [hh]
              refine j_if_eq (tgt := 93) C dX12_copy_78 (by decide) (fun c6 => ?_) (fun c6 => ?_)
              · have hP := hP.1 c6
                rw [if_pos c6] at hR
                refine j_bipush (v := (-13)) C dX12_copy_93 (by decide) ?_
                exact hR _ _ dX12_copy_95
              · have hP := hP.2 c6
                rw [if_neg c6] at hR
                refine j_aload_n C dX12_copy_81 rfl rfl ?_
                refine j_iload_n C dX12_copy_82 rfl rfl ?_
                refine j_iload C dX12_copy_83 rfl ?_
                refine j_iload C dX12_copy_85 rfl ?_
                obtain ⟨p4, hP⟩ := hP
                refine j_callV C (MX12_hasPlaces a2 a3 a4 (hs h 0 0 0) p4) dX12_copy_87 (CKX12_hasPlaces (by decide)) ⟨rfl, rfl⟩ lk_RX12_377 in_X12_hasPlaces se_X12_hasPlaces (by decide) rfl rfl rfl (Nat.le_of_ble_eq_true rfl) ?_
                intro r S' h' hq
                obtain ⟨rfl, hh, rfl, hb6⟩ := hq
                rw [hh]
                refine j_if_ne (tgt := 96) C dX12_copy_90 (by decide) (fun c7 => ?_) (fun c7 => ?_)
                · have hP := hP.2 c7
                  rw [if_neg c7] at hR
                  refine j_iconst (v := 0) C dX12_copy_96 (by decide) ?_
                  refine j_istore C dX12_copy_97 (by decide) rfl ?_
                  exact j_vl (tX12_copy_99 C 2000 a0 a1 a2 a3 a4 0 (hs h 0 0 0) hP hR) ⟨rfl, rfl, rfl, rfl, rfl, rfl, rfl, trivial⟩
                · have hP := hP.1 c7
                  rw [if_pos c7] at hR
                  refine j_bipush (v := (-13)) C dX12_copy_93 (by decide) ?_
                  exact hR _ _ dX12_copy_95
            · have hP := hP.2 c5
              rw [if_neg c5] at hR
              refine j_bipush (v := (-12)) C dX12_copy_67 (by decide) ?_
              exact hR _ _ dX12_copy_69
        · have hP := hP.1 c3
          rw [if_pos c3] at hR
          refine j_bipush (v := (-11)) C dX12_copy_39 (by decide) ?_
          exact hR _ _ dX12_copy_41
    · have hP := hP.1 c1
      rw [if_pos c1] at hR
      refine j_iconst (v := (-1)) C dX12_copy_19 (by decide) ?_
      exact hR _ _ dX12_copy_20
theorem MX12_copy {l0 : Launch} {Y : fj_Y} {ad : Nat → Nat} (a0 : Int32) (a1 : Int32) (a2 : Int32) (a3 : Int32) (a4 : Int32) (h : ph_H) (hP : PX12_copy a0 a1 a2 a3 a4 h) : MI l0 yX12_copy cX12_copy 7 (some .int) ({ frames := 1, cells := 0, slots := 0, locals := 23 } : Room) Y ad 50 SM h [.ref (ad 0), .int a0, .int a1, .int a2, .int a3, .int a4] (fun r S' h' => S' = SM ∧ h' = (FX12_copy a0 a1 a2 a3 a4 h).2 ∧ r = (FX12_copy a0 a1 a2 a3 a4 h).1) := met_i (by decide) (Nat.le_of_ble_eq_true rfl) (fun _ _ _ _ => rfl) (fun X C K => j_vl (tX12_copy C a0 a1 a2 a3 a4 h hP (fun pc lv hd => K _ _ _ ⟨rfl, rfl, rfl⟩ pc lv hd)) ⟨rfl, rfl, rfl, rfl, rfl, rfl, trivial⟩)
end MG_08_m09
section MG_08_m10
-- X12_denied
def FX12_denied (a0 : Int32) (h : ph_H) : Int32 := if (FX12_isShelf a0) = 0 then ((-1)) else (if (h 44 (a0.toNatClampNeg)) = 0 then ((-11)) else (if (h 44 (a0.toNatClampNeg)) ≤ 1 then (0) else ((-12))))
def PX12_denied (a0 : Int32) (h : ph_H) : Prop := (PX12_isShelf a0) ∧ (((FX12_isShelf a0) = 0 → (True)) ∧ (¬ (FX12_isShelf a0) = 0 → (vp_in a0 8 ∧ (((h 44 (a0.toNatClampNeg)) = 0 → (True)) ∧ (¬ (h 44 (a0.toNatClampNeg)) = 0 → (vp_in a0 8 ∧ (((h 44 (a0.toNatClampNeg)) ≤ 1 → (True)) ∧ (¬ (h 44 (a0.toNatClampNeg)) ≤ 1 → (True)))))))))
set_option maxRecDepth 100000 in
set_option maxHeartbeats 4000000 in
theorem tX12_denied {X : fj_X} {Y : fj_Y} {l0 : Launch} {ad : Nat → Nat} (C : FC X Y l0 cX12_denied 2 RX12 ({ frames := 1, cells := 0, slots := 0, locals := 20 } : Room) 0 0 (some .int)) (a0 : Int32) (h : ph_H) (hP : PX12_denied a0 h) (hR : RETp X Y ad 50 SM h cX12_denied (FX12_denied a0 h)) : FJ X Y ad 50 SM h 0 [(0, .ref (ad 0)), (1, .int a0)] [] := by
  unfold PX12_denied at hP
  unfold FX12_denied at hR
  refine j_iload_n C dX12_denied_0 rfl rfl ?_
  obtain ⟨p1, hP⟩ := hP
  refine j_callS C (MX12_isShelf a0 h p1) dX12_denied_1 (CKX12_isShelf (by decide)) ⟨rfl, rfl⟩ lk_RX12_374 st_X12_isShelf rfl (Nat.le_of_ble_eq_true rfl) ?_
  intro r S' h' hq
  obtain ⟨rfl, hh, rfl, hb3⟩ := hq
  rw [hh]
  refine j_if_ne (tgt := 11) C dX12_denied_4 (by decide) (fun c0 => ?_) (fun c0 => ?_)
  · have hP := hP.2 c0
    rw [if_neg c0] at hR
    refine j_aload_n C dX12_denied_11 rfl rfl ?_
    refine gM_146 C dX12_denied_12 ?_
    refine j_iload_n C dX12_denied_15 rfl rfl ?_
    obtain ⟨p3, hP⟩ := hP
    refine j_iald (k := 44) (v := (h 44 (a0.toNatClampNeg))) C dX12_denied_16 (by decide) rfl p3 rfl ?_
    refine j_if_ne (tgt := 25) C dX12_denied_17 (by decide) (fun c1 => ?_) (fun c1 => ?_)
    · have hP := hP.2 c1
      rw [if_neg c1] at hR
      refine j_aload_n C dX12_denied_25 rfl rfl ?_
      refine gM_146 C dX12_denied_26 ?_
      refine j_iload_n C dX12_denied_29 rfl rfl ?_
      obtain ⟨p3, hP⟩ := hP
      refine j_iald (k := 44) (v := (h 44 (a0.toNatClampNeg))) C dX12_denied_30 (by decide) rfl p3 rfl ?_
      refine j_iconst (v := 1) C dX12_denied_31 (by decide) ?_
      refine j_icmp_le (tgt := 40) C dX12_denied_32 (by decide) (fun c2 => ?_) (fun c2 => ?_)
      · have hP := hP.1 c2
        rw [if_pos c2] at hR
        refine j_iconst (v := 0) C dX12_denied_40 (by decide) ?_
        exact hR _ _ dX12_denied_41
      · have hP := hP.2 c2
        rw [if_neg c2] at hR
        refine j_bipush (v := (-12)) C dX12_denied_35 (by decide) ?_
        refine j_goto (tgt := 41) C dX12_denied_37 (by decide) ?_
        exact hR _ _ dX12_denied_41
    · have hP := hP.1 c1
      rw [if_pos c1] at hR
      refine j_bipush (v := (-11)) C dX12_denied_20 (by decide) ?_
      refine j_goto (tgt := 41) C dX12_denied_22 (by decide) ?_
      exact hR _ _ dX12_denied_41
  · have hP := hP.1 c0
    rw [if_pos c0] at hR
    refine j_iconst (v := (-1)) C dX12_denied_7 (by decide) ?_
    refine j_goto (tgt := 41) C dX12_denied_8 (by decide) ?_
    exact hR _ _ dX12_denied_41
theorem MX12_denied {l0 : Launch} {Y : fj_Y} {ad : Nat → Nat} (a0 : Int32) (h : ph_H) (hP : PX12_denied a0 h) : MI l0 yX12_denied cX12_denied 2 (some .int) ({ frames := 1, cells := 0, slots := 0, locals := 20 } : Room) Y ad 50 SM h [.ref (ad 0), .int a0] (fun r S' h' => S' = SM ∧ h' = h ∧ r = FX12_denied a0 h) := met_i (by decide) (Nat.le_of_ble_eq_true rfl) (fun _ _ _ _ => rfl) (fun X C K => j_vl (tX12_denied C a0 h hP (fun pc lv hd => K _ _ _ ⟨rfl, rfl, rfl⟩ pc lv hd)) ⟨rfl, rfl, trivial⟩)

-- X12_weight
def FX12_weight (a0 : Int32) (h : ph_H) : Int32 × ph_H := if 0 ≤ (FX12_denied a0 (hs h 0 0 0)) then (if (h 47 (a0.toNatClampNeg)) = 1 then (((((h 46 (a0.toNatClampNeg)) + 1) + (10 * (h 45 (a0.toNatClampNeg)))), (hs h 0 0 0))) else (if (h 47 (a0.toNatClampNeg)) = 2 then (((((h 46 (a0.toNatClampNeg)) + 1) + 100), (hs h 0 0 0))) else (((2 * (((h 46 (a0.toNatClampNeg)) + 1) + 100)), (hs h 0 0 0))))) else (((FX12_denied a0 (hs h 0 0 0)), (hs h 0 0 0)))
def PX12_weight (a0 : Int32) (h : ph_H) : Prop := (PX12_denied a0 (hs h 0 0 0)) ∧ ((0 ≤ (FX12_denied a0 (hs h 0 0 0)) → (vp_in a0 8 ∧ (vp_in a0 8 ∧ (((h 47 (a0.toNatClampNeg)) = 1 → (vp_in a0 8 ∧ (True))) ∧ (¬ (h 47 (a0.toNatClampNeg)) = 1 → (vp_in a0 8 ∧ (((h 47 (a0.toNatClampNeg)) = 2 → (True)) ∧ (¬ (h 47 (a0.toNatClampNeg)) = 2 → (True))))))))) ∧ (¬ 0 ≤ (FX12_denied a0 (hs h 0 0 0)) → (True)))
set_option maxRecDepth 100000 in
set_option maxHeartbeats 4000000 in
theorem tX12_weight {X : fj_X} {Y : fj_Y} {l0 : Launch} {ad : Nat → Nat} (C : FC X Y l0 cX12_weight 4 RX12 ({ frames := 2, cells := 0, slots := 0, locals := 41 } : Room) 0 0 (some .int)) (a0 : Int32) (h : ph_H) (hP : PX12_weight a0 h) (hR : RETi X Y ad 50 SM cX12_weight (FX12_weight a0 h)) : FJ X Y ad 50 SM h 0 [(0, .ref (ad 0)), (1, .int a0)] [] := by
  unfold PX12_weight at hP
  unfold FX12_weight at hR
  refine j_aload_n C dX12_weight_0 rfl rfl ?_
  refine j_iconst (v := 0) C dX12_weight_1 (by decide) ?_
  refine pM_164 C dX12_weight_2 ?_
  refine j_aload_n C dX12_weight_5 rfl rfl ?_
  refine j_iload_n C dX12_weight_6 rfl rfl ?_
  obtain ⟨p5, hP⟩ := hP
  refine j_callV C (MX12_denied a0 (hs h 0 0 0) p5) dX12_weight_7 (CKX12_denied (by decide)) ⟨rfl, rfl⟩ lk_RX12_380 in_X12_denied se_X12_denied (by decide) rfl rfl rfl (Nat.le_of_ble_eq_true rfl) ?_
  intro r S' h' hq
  obtain ⟨rfl, hh, rfl⟩ := hq
  rw [hh]
  refine j_istore_n C dX12_weight_10 rfl (by decide) rfl ?_
  refine j_iload_n C dX12_weight_11 rfl rfl ?_
  refine j_if_ge (tgt := 17) C dX12_weight_12 (by decide) (fun c0 => ?_) (fun c0 => ?_)
  · have hP := hP.1 c0
    rw [if_pos c0] at hR
    refine j_aload_n C dX12_weight_17 rfl rfl ?_
    refine gM_152 C dX12_weight_18 ?_
    refine j_iload_n C dX12_weight_21 rfl rfl ?_
    obtain ⟨p3, hP⟩ := hP
    refine j_iald (k := 46) (v := (h 46 (a0.toNatClampNeg))) C dX12_weight_22 (by decide) rfl p3 (hz_k (by decide)) ?_
    refine j_iconst (v := 1) C dX12_weight_23 (by decide) ?_
    refine j_iadd C dX12_weight_24 ?_
    refine j_istore_n C dX12_weight_25 rfl (by decide) rfl ?_
    refine j_aload_n C dX12_weight_26 rfl rfl ?_
    refine gM_155 C dX12_weight_27 ?_
    refine j_iload_n C dX12_weight_30 rfl rfl ?_
    obtain ⟨p11, hP⟩ := hP
    refine j_iald (k := 47) (v := (h 47 (a0.toNatClampNeg))) C dX12_weight_31 (by decide) rfl p11 (hz_k (by decide)) ?_
    refine j_iconst (v := 1) C dX12_weight_32 (by decide) ?_
    refine j_icmp_ne (tgt := 50) C dX12_weight_33 (by decide) (fun c1 => ?_) (fun c1 => ?_)
    · have hP := hP.2 c1
      rw [if_neg c1] at hR
      refine j_aload_n C dX12_weight_50 rfl rfl ?_
      refine gM_155 C dX12_weight_51 ?_
      refine j_iload_n C dX12_weight_54 rfl rfl ?_
      obtain ⟨p3, hP⟩ := hP
      refine j_iald (k := 47) (v := (h 47 (a0.toNatClampNeg))) C dX12_weight_55 (by decide) rfl p3 (hz_k (by decide)) ?_
      refine j_iconst (v := 2) C dX12_weight_56 (by decide) ?_
      refine j_icmp_ne (tgt := 67) C dX12_weight_57 (by decide) (fun c2 => ?_) (fun c2 => ?_)
      · have hP := hP.2 c2
        rw [if_neg c2] at hR
        refine j_iconst (v := 2) C dX12_weight_67 (by decide) ?_
        refine j_iload_n C dX12_weight_68 rfl rfl ?_
        refine j_bipush (v := 100) C dX12_weight_69 (by decide) ?_
        refine j_iadd C dX12_weight_71 ?_
        refine j_imul C dX12_weight_72 ?_
        exact hR _ _ dX12_weight_73
      · have hP := hP.1 c2
        rw [if_pos c2] at hR
        refine j_iload_n C dX12_weight_60 rfl rfl ?_
        refine j_bipush (v := 100) C dX12_weight_61 (by decide) ?_
        refine j_iadd C dX12_weight_63 ?_
        refine j_goto (tgt := 73) C dX12_weight_64 (by decide) ?_
        exact hR _ _ dX12_weight_73
    · have hP := hP.1 c1
      rw [if_pos c1] at hR
      refine j_iload_n C dX12_weight_36 rfl rfl ?_
      refine j_bipush (v := 10) C dX12_weight_37 (by decide) ?_
      refine j_aload_n C dX12_weight_39 rfl rfl ?_
      refine gM_149 C dX12_weight_40 ?_
      refine j_iload_n C dX12_weight_43 rfl rfl ?_
      obtain ⟨p5, hP⟩ := hP
      refine j_iald (k := 45) (v := (h 45 (a0.toNatClampNeg))) C dX12_weight_44 (by decide) rfl p5 (hz_k (by decide)) ?_
      refine j_imul C dX12_weight_45 ?_
      refine j_iadd C dX12_weight_46 ?_
      refine j_goto (tgt := 73) C dX12_weight_47 (by decide) ?_
      exact hR _ _ dX12_weight_73
  · have hP := hP.2 c0
    rw [if_neg c0] at hR
    refine j_iload_n C dX12_weight_15 rfl rfl ?_
    exact hR _ _ dX12_weight_16
theorem MX12_weight {l0 : Launch} {Y : fj_Y} {ad : Nat → Nat} (a0 : Int32) (h : ph_H) (hP : PX12_weight a0 h) : MI l0 yX12_weight cX12_weight 4 (some .int) ({ frames := 2, cells := 0, slots := 0, locals := 41 } : Room) Y ad 50 SM h [.ref (ad 0), .int a0] (fun r S' h' => S' = SM ∧ h' = (FX12_weight a0 h).2 ∧ r = (FX12_weight a0 h).1) := met_i (by decide) (Nat.le_of_ble_eq_true rfl) (fun _ _ _ _ => rfl) (fun X C K => j_vl (tX12_weight C a0 h hP (fun pc lv hd => K _ _ _ ⟨rfl, rfl, rfl⟩ pc lv hd)) ⟨rfl, rfl, trivial⟩)

-- X12_toss
def FX12_toss (a0 : Int32) (h : ph_H) : Int32 × ph_H := if 0 ≤ (FX12_denied a0 (hs h 0 0 0)) then (if (h 47 (a0.toNatClampNeg)) = 1 then (((-15), (hs h 0 0 0))) else (((h 46 (a0.toNatClampNeg)), (hs h 0 0 0)))) else (((FX12_denied a0 (hs h 0 0 0)), (hs h 0 0 0)))
def PX12_toss (a0 : Int32) (h : ph_H) : Prop := (PX12_denied a0 (hs h 0 0 0)) ∧ ((0 ≤ (FX12_denied a0 (hs h 0 0 0)) → (vp_in a0 8 ∧ (((h 47 (a0.toNatClampNeg)) = 1 → (True)) ∧ (¬ (h 47 (a0.toNatClampNeg)) = 1 → (vp_in a0 8 ∧ (True)))))) ∧ (¬ 0 ≤ (FX12_denied a0 (hs h 0 0 0)) → (True)))
set_option maxRecDepth 100000 in
set_option maxHeartbeats 4000000 in
theorem tX12_toss {X : fj_X} {Y : fj_Y} {l0 : Launch} {ad : Nat → Nat} (C : FC X Y l0 cX12_toss 3 RX12 ({ frames := 2, cells := 0, slots := 0, locals := 41 } : Room) 0 0 (some .int)) (a0 : Int32) (h : ph_H) (hP : PX12_toss a0 h) (hR : RETi X Y ad 50 SM cX12_toss (FX12_toss a0 h)) : FJ X Y ad 50 SM h 0 [(0, .ref (ad 0)), (1, .int a0)] [] := by
  unfold PX12_toss at hP
  unfold FX12_toss at hR
  refine j_aload_n C dX12_toss_0 rfl rfl ?_
  refine j_iconst (v := 0) C dX12_toss_1 (by decide) ?_
  refine pM_164 C dX12_toss_2 ?_
  refine j_aload_n C dX12_toss_5 rfl rfl ?_
  refine j_iload_n C dX12_toss_6 rfl rfl ?_
  obtain ⟨p5, hP⟩ := hP
  refine j_callV C (MX12_denied a0 (hs h 0 0 0) p5) dX12_toss_7 (CKX12_denied (by decide)) ⟨rfl, rfl⟩ lk_RX12_380 in_X12_denied se_X12_denied (by decide) rfl rfl rfl (Nat.le_of_ble_eq_true rfl) ?_
  intro r S' h' hq
  obtain ⟨rfl, hh, rfl⟩ := hq
  rw [hh]
  refine j_istore_n C dX12_toss_10 rfl (by decide) rfl ?_
  refine j_iload_n C dX12_toss_11 rfl rfl ?_
  refine j_if_ge (tgt := 19) C dX12_toss_12 (by decide) (fun c0 => ?_) (fun c0 => ?_)
  · have hP := hP.1 c0
    rw [if_pos c0] at hR
    refine j_aload_n C dX12_toss_19 rfl rfl ?_
    refine gM_155 C dX12_toss_20 ?_
    refine j_iload_n C dX12_toss_23 rfl rfl ?_
    obtain ⟨p3, hP⟩ := hP
    refine j_iald (k := 47) (v := (h 47 (a0.toNatClampNeg))) C dX12_toss_24 (by decide) rfl p3 (hz_k (by decide)) ?_
    refine j_iconst (v := 1) C dX12_toss_25 (by decide) ?_
    refine j_icmp_ne (tgt := 34) C dX12_toss_26 (by decide) (fun c1 => ?_) (fun c1 => ?_)
    · have hP := hP.2 c1
      rw [if_neg c1] at hR
      refine j_aload_n C dX12_toss_34 rfl rfl ?_
      refine gM_152 C dX12_toss_35 ?_
      refine j_iload_n C dX12_toss_38 rfl rfl ?_
      obtain ⟨p3, hP⟩ := hP
      refine j_iald (k := 46) (v := (h 46 (a0.toNatClampNeg))) C dX12_toss_39 (by decide) rfl p3 (hz_k (by decide)) ?_
      exact hR _ _ dX12_toss_40
    · have hP := hP.1 c1
      rw [if_pos c1] at hR
      refine j_bipush (v := (-15)) C dX12_toss_29 (by decide) ?_
      refine j_goto (tgt := 40) C dX12_toss_31 (by decide) ?_
      exact hR _ _ dX12_toss_40
  · have hP := hP.2 c0
    rw [if_neg c0] at hR
    refine j_iload_n C dX12_toss_15 rfl rfl ?_
    refine j_goto (tgt := 40) C dX12_toss_16 (by decide) ?_
    exact hR _ _ dX12_toss_40
theorem MX12_toss {l0 : Launch} {Y : fj_Y} {ad : Nat → Nat} (a0 : Int32) (h : ph_H) (hP : PX12_toss a0 h) : MI l0 yX12_toss cX12_toss 3 (some .int) ({ frames := 2, cells := 0, slots := 0, locals := 41 } : Room) Y ad 50 SM h [.ref (ad 0), .int a0] (fun r S' h' => S' = SM ∧ h' = (FX12_toss a0 h).2 ∧ r = (FX12_toss a0 h).1) := met_i (by decide) (Nat.le_of_ble_eq_true rfl) (fun _ _ _ _ => rfl) (fun X C K => j_vl (tX12_toss C a0 h hP (fun pc lv hd => K _ _ _ ⟨rfl, rfl, rfl⟩ pc lv hd)) ⟨rfl, rfl, trivial⟩)
end MG_08_m10
