-- X11_isThread
def FX11_isThread (a0 : Int32) : Int32 := if a0 < 0 then (0) else (if 4 ≤ a0 then (0) else (1))
def PX11_isThread (a0 : Int32) : Prop := (a0 < 0 → (True)) ∧ (¬ a0 < 0 → ((4 ≤ a0 → (True)) ∧ (¬ 4 ≤ a0 → (True))))
set_option maxRecDepth 100000 in
set_option maxHeartbeats 4000000 in
theorem tX11_isThread {X : fj_X} {Y : fj_Y} {l0 : Launch} {ad : Nat → Nat} {n : Nat} {S : ph_S} {pr : Nat} (W : WS pr n S) (C : FC X Y l0 cX11_isThread 1 RX11 ({ frames := 0, cells := 0, slots := 0, locals := 0 } : Room) 0 0 (some .boolean)) (a0 : Int32) (h : ph_H) (hP : PX11_isThread a0) (hR : RETq X Y ad n S h cX11_isThread (FX11_isThread a0)) : FJ X Y ad n S h 0 [(0, .int a0)] [] := by
  unfold PX11_isThread at hP
  unfold FX11_isThread at hR
  refine j_iload_n C dX11_isThread_0 rfl rfl ?_
  refine j_if_lt (tgt := 13) C dX11_isThread_1 (by decide) (fun c0 => ?_) (fun c0 => ?_)
  · have hP := hP.1 c0
    rw [if_pos c0] at hR
    refine j_iconst (v := 0) C dX11_isThread_13 (by decide) ?_
    exact hR bo_0 _ _ dX11_isThread_14
  · have hP := hP.2 c0
    rw [if_neg c0] at hR
    refine j_iload_n C dX11_isThread_4 rfl rfl ?_
    refine j_iconst (v := 4) C dX11_isThread_5 (by decide) ?_
    refine j_icmp_ge (tgt := 13) C dX11_isThread_6 (by decide) (fun c1 => ?_) (fun c1 => ?_)
    · have hP := hP.1 c1
      rw [if_pos c1] at hR
      refine j_iconst (v := 0) C dX11_isThread_13 (by decide) ?_
      exact hR bo_0 _ _ dX11_isThread_14
    · have hP := hP.2 c1
      rw [if_neg c1] at hR
      refine j_iconst (v := 1) C dX11_isThread_9 (by decide) ?_
      refine j_goto (tgt := 14) C dX11_isThread_10 (by decide) ?_
      exact hR bo_1 _ _ dX11_isThread_14
theorem MX11_isThread {l0 : Launch} {Y : fj_Y} {ad : Nat → Nat} {n : Nat} {S : ph_S} {pr : Nat} (W : WS pr n S) (a0 : Int32) (h : ph_H) (hP : PX11_isThread a0) : MI l0 yX11_isThread cX11_isThread 1 (some .boolean) ({ frames := 0, cells := 0, slots := 0, locals := 0 } : Room) Y ad n S h [.int a0] (fun r S' h' => S' = S ∧ h' = h ∧ r = FX11_isThread a0 ∧ bo r) := met_i (by decide) (Nat.le_of_ble_eq_true rfl) (fun _ _ _ q => bo_n q.2.2.2) (fun X C K => j_vl (tX11_isThread W C a0 h hP (fun b pc lv hd => K _ _ _ ⟨rfl, rfl, rfl, b⟩ pc lv hd)) ⟨rfl, trivial⟩)

-- X5_firstPart_n
def FX5_firstPart_n (a0 : Int32) (a1 : Int32) (h : ph_H) : Int32 := (((a0 * 24) + a1) * 4)
def PX5_firstPart_n (a0 : Int32) (a1 : Int32) (h : ph_H) : Prop := True
set_option maxRecDepth 100000 in
set_option maxHeartbeats 4000000 in
theorem tX5_firstPart_n {X : fj_X} {Y : fj_Y} {l0 : Launch} {ad : Nat → Nat} {n : Nat} {S : ph_S} {pr : Nat} (W : WS pr n S) (C : FC X Y l0 cX5_firstPart 3 RX5 ({ frames := 0, cells := 0, slots := 0, locals := 0 } : Room) 0 0 (some .int)) (a0 : Int32) (a1 : Int32) (h : ph_H) (hP : PX5_firstPart_n a0 a1 h) (hR : RETp X Y ad n S h cX5_firstPart (FX5_firstPart_n a0 a1 h)) : FJ X Y ad n S h 0 [(0, .ref (ad 1)), (1, .int a0), (2, .int a1)] [] := by
  unfold PX5_firstPart_n at hP
  unfold FX5_firstPart_n at hR
  refine j_iload_n C dX5_firstPart_0 rfl rfl ?_
  refine j_bipush (v := 24) C dX5_firstPart_1 (by decide) ?_
  refine j_imul C dX5_firstPart_3 ?_
  refine j_iload_n C dX5_firstPart_4 rfl rfl ?_
  refine j_iadd C dX5_firstPart_5 ?_
  refine j_iconst (v := 4) C dX5_firstPart_6 (by decide) ?_
  refine j_imul C dX5_firstPart_7 ?_
  exact hR _ _ dX5_firstPart_8
theorem MX5_firstPart_n {l0 : Launch} {Y : fj_Y} {ad : Nat → Nat} {n : Nat} {S : ph_S} {pr : Nat} (W : WS pr n S) (a0 : Int32) (a1 : Int32) (h : ph_H) (hP : PX5_firstPart_n a0 a1 h) : MI l0 yX5_firstPart cX5_firstPart 3 (some .int) ({ frames := 0, cells := 0, slots := 0, locals := 0 } : Room) Y ad n S h [.ref (ad 1), .int a0, .int a1] (fun r S' h' => S' = S ∧ h' = h ∧ r = FX5_firstPart_n a0 a1 h) := met_i (by decide) (Nat.le_of_ble_eq_true rfl) (fun _ _ _ _ => rfl) (fun X C K => j_vl (tX5_firstPart_n W C a0 a1 h hP (fun pc lv hd => K _ _ _ ⟨rfl, rfl, rfl⟩ pc lv hd)) ⟨rfl, rfl, rfl, trivial⟩)

-- X11_code
def FX11_code (a0 : Int32) (a1 : Int32) (a2 : Int32) (a3 : Int32) (a4 : Int32) (h : ph_H) : Int32 × ph_H := if (FX11_isThread a0) = 0 then (((-1), h)) else (if a1 < 0 then (((-1), h)) else (if a1 ≤ 19 then (if (h 2 (a0.toNatClampNeg)) < 24 then (((h 2 (a0.toNatClampNeg)), (hs (hs (hs (hs (hs h 3 (FX5_firstPart_n a0 (h 2 (a0.toNatClampNeg)) h).toNatClampNeg a1) 3 ((FX5_firstPart_n a0 (h 2 (a0.toNatClampNeg)) h) + 1).toNatClampNeg a2) 3 ((FX5_firstPart_n a0 (h 2 (a0.toNatClampNeg)) h) + 2).toNatClampNeg a3) 3 ((FX5_firstPart_n a0 (h 2 (a0.toNatClampNeg)) h) + 3).toNatClampNeg a4) 2 a0.toNatClampNeg ((h 2 (a0.toNatClampNeg)) + 1)))) else (((-2), h))) else (((-1), h))))
def PX11_code (a0 : Int32) (a1 : Int32) (a2 : Int32) (a3 : Int32) (a4 : Int32) (h : ph_H) : Prop := (PX11_isThread a0) ∧ (((FX11_isThread a0) = 0 → (True)) ∧ (¬ (FX11_isThread a0) = 0 → ((a1 < 0 → (True)) ∧ (¬ a1 < 0 → ((a1 ≤ 19 → (vp_in a0 4 ∧ (((h 2 (a0.toNatClampNeg)) < 24 → ((PX5_firstPart_n a0 (h 2 (a0.toNatClampNeg)) h) ∧ (vp_in (FX5_firstPart_n a0 (h 2 (a0.toNatClampNeg)) h) 384 ∧ (vp_in ((FX5_firstPart_n a0 (h 2 (a0.toNatClampNeg)) h) + 1) 384 ∧ (vp_in ((FX5_firstPart_n a0 (h 2 (a0.toNatClampNeg)) h) + 2) 384 ∧ (vp_in ((FX5_firstPart_n a0 (h 2 (a0.toNatClampNeg)) h) + 3) 384 ∧ (vp_in a0 4 ∧ (True)))))))) ∧ (¬ (h 2 (a0.toNatClampNeg)) < 24 → (True))))) ∧ (¬ a1 ≤ 19 → (True)))))))
set_option maxRecDepth 100000 in
set_option maxHeartbeats 4000000 in
theorem tX11_code {X : fj_X} {Y : fj_Y} {l0 : Launch} {ad : Nat → Nat} {n : Nat} {S : ph_S} {pr : Nat} (W : WS pr n S) (C : FC X Y l0 cX11_code 8 RX11 ({ frames := 1, cells := 0, slots := 0, locals := 22 } : Room) 0 0 (some .int)) (a0 : Int32) (a1 : Int32) (a2 : Int32) (a3 : Int32) (a4 : Int32) (h : ph_H) (hP : PX11_code a0 a1 a2 a3 a4 h) (hR : RETi X Y ad n S cX11_code (FX11_code a0 a1 a2 a3 a4 h)) : FJ X Y ad n S h 0 [(0, .ref (ad 0)), (1, .int a0), (2, .int a1), (3, .int a2), (4, .int a3), (5, .int a4)] [] := by
  unfold PX11_code at hP
  unfold FX11_code at hR
  refine j_iload_n C dX11_code_0 rfl rfl ?_
  obtain ⟨p1, hP⟩ := hP
  refine j_callS C (MX11_isThread W a0 h p1) dX11_code_1 (CKX11_isThread (by decide)) ⟨rfl, rfl⟩ lk_RX11_66 st_X11_isThread rfl (Nat.le_of_ble_eq_true rfl) ?_
  intro r S' h' hq
  obtain ⟨e1, hh, e3, hb3⟩ := hq
  rw [e1, hh, e3]
  refine j_if_eq (tgt := 17) C dX11_code_4 (by decide) (fun c0 => ?_) (fun c0 => ?_)
  · have hP := hP.1 c0
    rw [if_pos c0] at hR
    refine j_iconst (v := (-1)) C dX11_code_17 (by decide) ?_
    exact RETi_u hR _ _ dX11_code_18
  · have hP := hP.2 c0
    rw [if_neg c0] at hR
    refine j_iload_n C dX11_code_7 rfl rfl ?_
    refine j_if_lt (tgt := 17) C dX11_code_8 (by decide) (fun c1 => ?_) (fun c1 => ?_)
    · have hP := hP.1 c1
      rw [if_pos c1] at hR
      refine j_iconst (v := (-1)) C dX11_code_17 (by decide) ?_
      exact RETi_u hR _ _ dX11_code_18
    · have hP := hP.2 c1
      rw [if_neg c1] at hR
      refine j_iload_n C dX11_code_11 rfl rfl ?_
      refine j_bipush (v := 19) C dX11_code_12 (by decide) ?_
      refine j_icmp_le (tgt := 19) C dX11_code_14 (by decide) (fun c2 => ?_) (fun c2 => ?_)
      · have hP := hP.1 c2
        rw [if_pos c2] at hR
        refine j_aload_n C dX11_code_19 rfl rfl ?_
        refine gCRX11_12 C dX11_code_20 (W.lt 0 (by decide)) (sh_0 W) rfl ?_
        refine gCRX11_70 C dX11_code_23 (W.lt 1 (by decide)) (sh_1 W) rfl ?_
        refine j_iload_n C dX11_code_26 rfl rfl ?_
        obtain ⟨p4, hP⟩ := hP
        refine j_iald (k := 2) (v := (h 2 (a0.toNatClampNeg))) C dX11_code_27 (W.lt 2 (by decide)) (sh_2 W) p4 rfl ?_
        refine j_istore C dX11_code_28 (by decide) rfl ?_
        refine j_iload C dX11_code_30 rfl ?_
        refine j_bipush (v := 24) C dX11_code_32 (by decide) ?_
        refine j_icmp_lt (tgt := 40) C dX11_code_34 (by decide) (fun c3 => ?_) (fun c3 => ?_)
        · have hP := hP.1 c3
          rw [if_pos c3] at hR
          refine j_aload_n C dX11_code_40 rfl rfl ?_
          refine gCRX11_12 C dX11_code_41 (W.lt 0 (by decide)) (sh_0 W) rfl ?_
          refine j_iload_n C dX11_code_44 rfl rfl ?_
          refine j_iload C dX11_code_45 rfl ?_
          obtain ⟨p4, hP⟩ := hP
          refine j_callV C (MX5_firstPart_n W a0 (h 2 (a0.toNatClampNeg)) h p4) dX11_code_47 (CKX5_firstPart (by decide)) ⟨rfl, rfl⟩ lk_RX11_74 in_X5_firstPart se_X5_firstPart (W.lt 1 (by decide)) (sh_1 W) rfl rfl (Nat.le_of_ble_eq_true rfl) ?_
          intro r S' h' hq
          obtain ⟨e1, hh, e3⟩ := hq
          rw [e1, hh, e3]
          refine j_istore C dX11_code_50 (by decide) rfl ?_
          refine j_aload_n C dX11_code_52 rfl rfl ?_
          refine gCRX11_12 C dX11_code_53 (W.lt 0 (by decide)) (sh_0 W) rfl ?_
          refine gCRX11_78 C dX11_code_56 (W.lt 1 (by decide)) (sh_1 W) rfl ?_
          refine j_iload C dX11_code_59 rfl ?_
          refine j_iload_n C dX11_code_61 rfl rfl ?_
          obtain ⟨p15, hP⟩ := hP
          refine j_iast (k := 3) C dX11_code_62 (W.lt 3 (by decide)) (sh_3 W) p15 ?_
          refine j_aload_n C dX11_code_63 rfl rfl ?_
          refine gCRX11_12 C dX11_code_64 (W.lt 0 (by decide)) (sh_0 W) rfl ?_
          refine gCRX11_78 C dX11_code_67 (W.lt 1 (by decide)) (sh_1 W) rfl ?_
          refine j_iload C dX11_code_70 rfl ?_
          refine j_iconst (v := 1) C dX11_code_72 (by decide) ?_
          refine j_iadd C dX11_code_73 ?_
          refine j_iload_n C dX11_code_74 rfl rfl ?_
          obtain ⟨p24, hP⟩ := hP
          refine j_iast (k := 3) C dX11_code_75 (W.lt 3 (by decide)) (sh_3 W) p24 ?_
          refine j_aload_n C dX11_code_76 rfl rfl ?_
          refine gCRX11_12 C dX11_code_77 (W.lt 0 (by decide)) (sh_0 W) rfl ?_
          refine gCRX11_78 C dX11_code_80 (W.lt 1 (by decide)) (sh_1 W) rfl ?_
          refine j_iload C dX11_code_83 rfl ?_
          refine j_iconst (v := 2) C dX11_code_85 (by decide) ?_
          refine j_iadd C dX11_code_86 ?_
          refine j_iload C dX11_code_87 rfl ?_
          obtain ⟨p33, hP⟩ := hP
          refine j_iast (k := 3) C dX11_code_89 (W.lt 3 (by decide)) (sh_3 W) p33 ?_
          refine j_aload_n C dX11_code_90 rfl rfl ?_
          refine gCRX11_12 C dX11_code_91 (W.lt 0 (by decide)) (sh_0 W) rfl ?_
          refine gCRX11_78 C dX11_code_94 (W.lt 1 (by decide)) (sh_1 W) rfl ?_
          refine j_iload C dX11_code_97 rfl ?_
          refine j_iconst (v := 3) C dX11_code_99 (by decide) ?_
          refine j_iadd C dX11_code_100 ?_
          refine j_iload C dX11_code_101 rfl ?_
          obtain ⟨p42, hP⟩ := hP
          refine j_iast (k := 3) C dX11_code_103 (W.lt 3 (by decide)) (sh_3 W) p42 ?_
          refine j_aload_n C dX11_code_104 rfl rfl ?_
          refine gCRX11_12 C dX11_code_105 (W.lt 0 (by decide)) (sh_0 W) rfl ?_
          refine gCRX11_70 C dX11_code_108 (W.lt 1 (by decide)) (sh_1 W) rfl ?_
          refine j_iload_n C dX11_code_111 rfl rfl ?_
          refine j_iload C dX11_code_112 rfl ?_
          refine j_iconst (v := 1) C dX11_code_114 (by decide) ?_
          refine j_iadd C dX11_code_115 ?_
          obtain ⟨p51, hP⟩ := hP
          refine j_iast (k := 2) C dX11_code_116 (W.lt 2 (by decide)) (sh_2 W) p51 ?_
          refine j_iload C dX11_code_117 rfl ?_
          exact RETi_u hR _ _ dX11_code_119
        · have hP := hP.2 c3
          rw [if_neg c3] at hR
          refine j_bipush (v := (-2)) C dX11_code_37 (by decide) ?_
          exact RETi_u hR _ _ dX11_code_39
      · have hP := hP.2 c2
        rw [if_neg c2] at hR
        refine j_iconst (v := (-1)) C dX11_code_17 (by decide) ?_
        exact RETi_u hR _ _ dX11_code_18
theorem MX11_code {l0 : Launch} {Y : fj_Y} {ad : Nat → Nat} {n : Nat} {S : ph_S} {pr : Nat} (W : WS pr n S) (a0 : Int32) (a1 : Int32) (a2 : Int32) (a3 : Int32) (a4 : Int32) (h : ph_H) (hP : PX11_code a0 a1 a2 a3 a4 h) : MI l0 yX11_code cX11_code 8 (some .int) ({ frames := 1, cells := 0, slots := 0, locals := 22 } : Room) Y ad n S h [.ref (ad 0), .int a0, .int a1, .int a2, .int a3, .int a4] (fun r S' h' => S' = S ∧ h' = (FX11_code a0 a1 a2 a3 a4 h).2 ∧ r = (FX11_code a0 a1 a2 a3 a4 h).1) := met_i (by decide) (Nat.le_of_ble_eq_true rfl) (fun _ _ _ _ => rfl) (fun X C K => j_vl (tX11_code W C a0 a1 a2 a3 a4 h hP (fun pc lv hd => K _ _ _ ⟨rfl, rfl, rfl⟩ pc lv hd)) ⟨rfl, rfl, rfl, rfl, rfl, rfl, trivial⟩)

-- X11_clear
def FX11_clear (a0 : Int32) (h : ph_H) : Int32 × ph_H := if (FX11_isThread a0) = 0 then (((-1), h)) else (((h 2 (a0.toNatClampNeg)), (hs h 2 a0.toNatClampNeg 0)))
def PX11_clear (a0 : Int32) (h : ph_H) : Prop := (PX11_isThread a0) ∧ (((FX11_isThread a0) = 0 → (True)) ∧ (¬ (FX11_isThread a0) = 0 → (vp_in a0 4 ∧ (vp_in a0 4 ∧ (True)))))
set_option maxRecDepth 100000 in
set_option maxHeartbeats 4000000 in
theorem tX11_clear {X : fj_X} {Y : fj_Y} {l0 : Launch} {ad : Nat → Nat} {n : Nat} {S : ph_S} {pr : Nat} (W : WS pr n S) (C : FC X Y l0 cX11_clear 3 RX11 ({ frames := 1, cells := 0, slots := 0, locals := 20 } : Room) 0 0 (some .int)) (a0 : Int32) (h : ph_H) (hP : PX11_clear a0 h) (hR : RETi X Y ad n S cX11_clear (FX11_clear a0 h)) : FJ X Y ad n S h 0 [(0, .ref (ad 0)), (1, .int a0)] [] := by
  unfold PX11_clear at hP
  unfold FX11_clear at hR
  refine j_iload_n C dX11_clear_0 rfl rfl ?_
  obtain ⟨p1, hP⟩ := hP
  refine j_callS C (MX11_isThread W a0 h p1) dX11_clear_1 (CKX11_isThread (by decide)) ⟨rfl, rfl⟩ lk_RX11_66 st_X11_isThread rfl (Nat.le_of_ble_eq_true rfl) ?_
  intro r S' h' hq
  obtain ⟨e1, hh, e3, hb3⟩ := hq
  rw [e1, hh, e3]
  refine j_if_ne (tgt := 9) C dX11_clear_4 (by decide) (fun c0 => ?_) (fun c0 => ?_)
  · have hP := hP.2 c0
    rw [if_neg c0] at hR
    refine j_aload_n C dX11_clear_9 rfl rfl ?_
    refine gCRX11_12 C dX11_clear_10 (W.lt 0 (by decide)) (sh_0 W) rfl ?_
    refine gCRX11_70 C dX11_clear_13 (W.lt 1 (by decide)) (sh_1 W) rfl ?_
    refine j_iload_n C dX11_clear_16 rfl rfl ?_
    obtain ⟨p4, hP⟩ := hP
    refine j_iald (k := 2) (v := (h 2 (a0.toNatClampNeg))) C dX11_clear_17 (W.lt 2 (by decide)) (sh_2 W) p4 rfl ?_
    refine j_istore_n C dX11_clear_18 rfl (by decide) rfl ?_
    refine j_aload_n C dX11_clear_19 rfl rfl ?_
    refine gCRX11_12 C dX11_clear_20 (W.lt 0 (by decide)) (sh_0 W) rfl ?_
    refine gCRX11_70 C dX11_clear_23 (W.lt 1 (by decide)) (sh_1 W) rfl ?_
    refine j_iload_n C dX11_clear_26 rfl rfl ?_
    refine j_iconst (v := 0) C dX11_clear_27 (by decide) ?_
    obtain ⟨p12, hP⟩ := hP
    refine j_iast (k := 2) C dX11_clear_28 (W.lt 2 (by decide)) (sh_2 W) p12 ?_
    refine j_iload_n C dX11_clear_29 rfl rfl ?_
    exact RETi_u hR _ _ dX11_clear_30
  · have hP := hP.1 c0
    rw [if_pos c0] at hR
    refine j_iconst (v := (-1)) C dX11_clear_7 (by decide) ?_
    exact RETi_u hR _ _ dX11_clear_8
theorem MX11_clear {l0 : Launch} {Y : fj_Y} {ad : Nat → Nat} {n : Nat} {S : ph_S} {pr : Nat} (W : WS pr n S) (a0 : Int32) (h : ph_H) (hP : PX11_clear a0 h) : MI l0 yX11_clear cX11_clear 3 (some .int) ({ frames := 1, cells := 0, slots := 0, locals := 20 } : Room) Y ad n S h [.ref (ad 0), .int a0] (fun r S' h' => S' = S ∧ h' = (FX11_clear a0 h).2 ∧ r = (FX11_clear a0 h).1) := met_i (by decide) (Nat.le_of_ble_eq_true rfl) (fun _ _ _ _ => rfl) (fun X C K => j_vl (tX11_clear W C a0 h hP (fun pc lv hd => K _ _ _ ⟨rfl, rfl, rfl⟩ pc lv hd)) ⟨rfl, rfl, trivial⟩)

-- X11_isCell
def FX11_isCell (a0 : Int32) : Int32 := if a0 < 0 then (0) else (if 12 ≤ a0 then (0) else (1))
def PX11_isCell (a0 : Int32) : Prop := (a0 < 0 → (True)) ∧ (¬ a0 < 0 → ((12 ≤ a0 → (True)) ∧ (¬ 12 ≤ a0 → (True))))
set_option maxRecDepth 100000 in
set_option maxHeartbeats 4000000 in
theorem tX11_isCell {X : fj_X} {Y : fj_Y} {l0 : Launch} {ad : Nat → Nat} {n : Nat} {S : ph_S} {pr : Nat} (W : WS pr n S) (C : FC X Y l0 cX11_isCell 1 RX11 ({ frames := 0, cells := 0, slots := 0, locals := 0 } : Room) 0 0 (some .boolean)) (a0 : Int32) (h : ph_H) (hP : PX11_isCell a0) (hR : RETq X Y ad n S h cX11_isCell (FX11_isCell a0)) : FJ X Y ad n S h 0 [(0, .int a0)] [] := by
  unfold PX11_isCell at hP
  unfold FX11_isCell at hR
  refine j_iload_n C dX11_isCell_0 rfl rfl ?_
  refine j_if_lt (tgt := 14) C dX11_isCell_1 (by decide) (fun c0 => ?_) (fun c0 => ?_)
  · have hP := hP.1 c0
    rw [if_pos c0] at hR
    refine j_iconst (v := 0) C dX11_isCell_14 (by decide) ?_
    exact hR bo_0 _ _ dX11_isCell_15
  · have hP := hP.2 c0
    rw [if_neg c0] at hR
    refine j_iload_n C dX11_isCell_4 rfl rfl ?_
    refine j_bipush (v := 12) C dX11_isCell_5 (by decide) ?_
    refine j_icmp_ge (tgt := 14) C dX11_isCell_7 (by decide) (fun c1 => ?_) (fun c1 => ?_)
    · have hP := hP.1 c1
      rw [if_pos c1] at hR
      refine j_iconst (v := 0) C dX11_isCell_14 (by decide) ?_
      exact hR bo_0 _ _ dX11_isCell_15
    · have hP := hP.2 c1
      rw [if_neg c1] at hR
      refine j_iconst (v := 1) C dX11_isCell_10 (by decide) ?_
      refine j_goto (tgt := 15) C dX11_isCell_11 (by decide) ?_
      exact hR bo_1 _ _ dX11_isCell_15
theorem MX11_isCell {l0 : Launch} {Y : fj_Y} {ad : Nat → Nat} {n : Nat} {S : ph_S} {pr : Nat} (W : WS pr n S) (a0 : Int32) (h : ph_H) (hP : PX11_isCell a0) : MI l0 yX11_isCell cX11_isCell 1 (some .boolean) ({ frames := 0, cells := 0, slots := 0, locals := 0 } : Room) Y ad n S h [.int a0] (fun r S' h' => S' = S ∧ h' = h ∧ r = FX11_isCell a0 ∧ bo r) := met_i (by decide) (Nat.le_of_ble_eq_true rfl) (fun _ _ _ q => bo_n q.2.2.2) (fun X C K => j_vl (tX11_isCell W C a0 h hP (fun b pc lv hd => K _ _ _ ⟨rfl, rfl, rfl, b⟩ pc lv hd)) ⟨rfl, trivial⟩)

-- X11_cell
def FX11_cell (a0 : Int32) (a1 : Int32) (h : ph_H) : Int32 × ph_H := if (FX11_isCell a0) = 0 then (((-1), h)) else ((0, (hs h 4 a0.toNatClampNeg a1)))
def PX11_cell (a0 : Int32) (a1 : Int32) (h : ph_H) : Prop := (PX11_isCell a0) ∧ (((FX11_isCell a0) = 0 → (True)) ∧ (¬ (FX11_isCell a0) = 0 → (vp_in a0 12 ∧ (True))))
set_option maxRecDepth 100000 in
set_option maxHeartbeats 4000000 in
theorem tX11_cell {X : fj_X} {Y : fj_Y} {l0 : Launch} {ad : Nat → Nat} {n : Nat} {S : ph_S} {pr : Nat} (W : WS pr n S) (C : FC X Y l0 cX11_cell 3 RX11 ({ frames := 1, cells := 0, slots := 0, locals := 20 } : Room) 0 0 (some .int)) (a0 : Int32) (a1 : Int32) (h : ph_H) (hP : PX11_cell a0 a1 h) (hR : RETi X Y ad n S cX11_cell (FX11_cell a0 a1 h)) : FJ X Y ad n S h 0 [(0, .ref (ad 0)), (1, .int a0), (2, .int a1)] [] := by
  unfold PX11_cell at hP
  unfold FX11_cell at hR
  refine j_iload_n C dX11_cell_0 rfl rfl ?_
  obtain ⟨p1, hP⟩ := hP
  refine j_callS C (MX11_isCell W a0 h p1) dX11_cell_1 (CKX11_isCell (by decide)) ⟨rfl, rfl⟩ lk_RX11_81 st_X11_isCell rfl (Nat.le_of_ble_eq_true rfl) ?_
  intro r S' h' hq
  obtain ⟨e1, hh, e3, hb3⟩ := hq
  rw [e1, hh, e3]
  refine j_if_ne (tgt := 9) C dX11_cell_4 (by decide) (fun c0 => ?_) (fun c0 => ?_)
  · have hP := hP.2 c0
    rw [if_neg c0] at hR
    refine j_aload_n C dX11_cell_9 rfl rfl ?_
    refine gCRX11_12 C dX11_cell_10 (W.lt 0 (by decide)) (sh_0 W) rfl ?_
    refine gCRX11_84 C dX11_cell_13 (W.lt 1 (by decide)) (sh_1 W) rfl ?_
    refine j_iload_n C dX11_cell_16 rfl rfl ?_
    refine j_iload_n C dX11_cell_17 rfl rfl ?_
    obtain ⟨p5, hP⟩ := hP
    refine j_iast (k := 4) C dX11_cell_18 (W.lt 4 (by decide)) (sh_4 W) p5 ?_
    refine j_iconst (v := 0) C dX11_cell_19 (by decide) ?_
    exact RETi_u hR _ _ dX11_cell_20
  · have hP := hP.1 c0
    rw [if_pos c0] at hR
    refine j_iconst (v := (-1)) C dX11_cell_7 (by decide) ?_
    exact RETi_u hR _ _ dX11_cell_8
theorem MX11_cell {l0 : Launch} {Y : fj_Y} {ad : Nat → Nat} {n : Nat} {S : ph_S} {pr : Nat} (W : WS pr n S) (a0 : Int32) (a1 : Int32) (h : ph_H) (hP : PX11_cell a0 a1 h) : MI l0 yX11_cell cX11_cell 3 (some .int) ({ frames := 1, cells := 0, slots := 0, locals := 20 } : Room) Y ad n S h [.ref (ad 0), .int a0, .int a1] (fun r S' h' => S' = S ∧ h' = (FX11_cell a0 a1 h).2 ∧ r = (FX11_cell a0 a1 h).1) := met_i (by decide) (Nat.le_of_ble_eq_true rfl) (fun _ _ _ _ => rfl) (fun X C K => j_vl (tX11_cell W C a0 a1 h hP (fun pc lv hd => K _ _ _ ⟨rfl, rfl, rfl⟩ pc lv hd)) ⟨rfl, rfl, rfl, trivial⟩)

-- X11_input
def FX11_input (a0 : Int32) (h : ph_H) : Int32 × ph_H := if (h 1 6) < 30 then ((((h 1 6) + 1), (hs (hs h 5 (h 1 6).toNatClampNeg a0) 1 6 ((h 1 6) + 1)))) else (((-2), h))
def PX11_input (a0 : Int32) (h : ph_H) : Prop := ((h 1 6) < 30 → (vp_in (h 1 6) 30 ∧ (True))) ∧ (¬ (h 1 6) < 30 → (True))
set_option maxRecDepth 100000 in
set_option maxHeartbeats 4000000 in
theorem tX11_input {X : fj_X} {Y : fj_Y} {l0 : Launch} {ad : Nat → Nat} {n : Nat} {S : ph_S} {pr : Nat} (W : WS pr n S) (C : FC X Y l0 cX11_input 2 RX11 ({ frames := 0, cells := 0, slots := 0, locals := 0 } : Room) 0 0 (some .int)) (a0 : Int32) (h : ph_H) (hP : PX11_input a0 h) (hR : RETi X Y ad n S cX11_input (FX11_input a0 h)) : FJ X Y ad n S h 0 [(0, .ref (ad 0)), (1, .int a0)] [] := by
  unfold PX11_input at hP
  unfold FX11_input at hR
  refine j_aload_n C dX11_input_0 rfl rfl ?_
  refine gCRX11_12 C dX11_input_1 (W.lt 0 (by decide)) (sh_0 W) rfl ?_
  refine gCRX11_87 (v := (h 1 6)) C dX11_input_4 (W.lt 1 (by decide)) (sh_1 W) rfl rfl ?_
  refine j_bipush (v := 30) C dX11_input_7 (by decide) ?_
  refine j_icmp_lt (tgt := 15) C dX11_input_9 (by decide) (fun c0 => ?_) (fun c0 => ?_)
  · have hP := hP.1 c0
    rw [if_pos c0] at hR
    refine j_aload_n C dX11_input_15 rfl rfl ?_
    refine gCRX11_12 C dX11_input_16 (W.lt 0 (by decide)) (sh_0 W) rfl ?_
    refine gCRX11_90 C dX11_input_19 (W.lt 1 (by decide)) (sh_1 W) rfl ?_
    refine j_aload_n C dX11_input_22 rfl rfl ?_
    refine gCRX11_12 C dX11_input_23 (W.lt 0 (by decide)) (sh_0 W) rfl ?_
    refine gCRX11_87 (v := (h 1 6)) C dX11_input_26 (W.lt 1 (by decide)) (sh_1 W) rfl rfl ?_
    refine j_iload_n C dX11_input_29 rfl rfl ?_
    obtain ⟨p7, hP⟩ := hP
    refine j_iast (k := 5) C dX11_input_30 (W.lt 5 (by decide)) (sh_5 W) p7 ?_
    refine j_aload_n C dX11_input_31 rfl rfl ?_
    refine gCRX11_12 C dX11_input_32 (W.lt 0 (by decide)) (sh_0 W) rfl ?_
    refine j_dup C dX11_input_35 rfl ?_
    refine gCRX11_87 (v := (h 1 6)) C dX11_input_36 (W.lt 1 (by decide)) (sh_1 W) rfl (hz_k (by decide)) ?_
    refine j_iconst (v := 1) C dX11_input_39 (by decide) ?_
    refine j_iadd C dX11_input_40 ?_
    refine pCRX11_87 C dX11_input_41 (W.lt 1 (by decide)) (sh_1 W) rfl ?_
    refine j_aload_n C dX11_input_44 rfl rfl ?_
    refine gCRX11_12 C dX11_input_45 (W.lt 0 (by decide)) (sh_0 W) rfl ?_
    refine gCRX11_87 (v := ((h 1 6) + 1)) C dX11_input_48 (W.lt 1 (by decide)) (sh_1 W) rfl (hz_e) ?_
    exact RETi_u hR _ _ dX11_input_51
  · have hP := hP.2 c0
    rw [if_neg c0] at hR
    refine j_bipush (v := (-2)) C dX11_input_12 (by decide) ?_
    exact RETi_u hR _ _ dX11_input_14
theorem MX11_input {l0 : Launch} {Y : fj_Y} {ad : Nat → Nat} {n : Nat} {S : ph_S} {pr : Nat} (W : WS pr n S) (a0 : Int32) (h : ph_H) (hP : PX11_input a0 h) : MI l0 yX11_input cX11_input 2 (some .int) ({ frames := 0, cells := 0, slots := 0, locals := 0 } : Room) Y ad n S h [.ref (ad 0), .int a0] (fun r S' h' => S' = S ∧ h' = (FX11_input a0 h).2 ∧ r = (FX11_input a0 h).1) := met_i (by decide) (Nat.le_of_ble_eq_true rfl) (fun _ _ _ _ => rfl) (fun X C K => j_vl (tX11_input W C a0 h hP (fun pc lv hd => K _ _ _ ⟨rfl, rfl, rfl⟩ pc lv hd)) ⟨rfl, rfl, trivial⟩)

-- X11_turn
def FX11_turn (a0 : Int32) (a1 : Int32) (h : ph_H) : Int32 × ph_H := if (FX11_isThread a0) = 0 then (((-1), h)) else (if a1 < 1 then (((-1), h)) else (if a1 ≤ 100 then (if (h 1 7) < 40 then ((((h 1 7) + 1), (hs (hs (hs h 6 (h 1 7).toNatClampNeg a0) 7 (h 1 7).toNatClampNeg a1) 1 7 ((h 1 7) + 1)))) else (((-2), h))) else (((-1), h))))
def PX11_turn (a0 : Int32) (a1 : Int32) (h : ph_H) : Prop := (PX11_isThread a0) ∧ (((FX11_isThread a0) = 0 → (True)) ∧ (¬ (FX11_isThread a0) = 0 → ((a1 < 1 → (True)) ∧ (¬ a1 < 1 → ((a1 ≤ 100 → (((h 1 7) < 40 → (vp_in (h 1 7) 40 ∧ (vp_in (h 1 7) 40 ∧ (True)))) ∧ (¬ (h 1 7) < 40 → (True)))) ∧ (¬ a1 ≤ 100 → (True)))))))
set_option maxRecDepth 100000 in
set_option maxHeartbeats 4000000 in
theorem tX11_turn {X : fj_X} {Y : fj_Y} {l0 : Launch} {ad : Nat → Nat} {n : Nat} {S : ph_S} {pr : Nat} (W : WS pr n S) (C : FC X Y l0 cX11_turn 3 RX11 ({ frames := 1, cells := 0, slots := 0, locals := 20 } : Room) 0 0 (some .int)) (a0 : Int32) (a1 : Int32) (h : ph_H) (hP : PX11_turn a0 a1 h) (hR : RETi X Y ad n S cX11_turn (FX11_turn a0 a1 h)) : FJ X Y ad n S h 0 [(0, .ref (ad 0)), (1, .int a0), (2, .int a1)] [] := by
  unfold PX11_turn at hP
  unfold FX11_turn at hR
  refine j_iload_n C dX11_turn_0 rfl rfl ?_
  obtain ⟨p1, hP⟩ := hP
  refine j_callS C (MX11_isThread W a0 h p1) dX11_turn_1 (CKX11_isThread (by decide)) ⟨rfl, rfl⟩ lk_RX11_66 st_X11_isThread rfl (Nat.le_of_ble_eq_true rfl) ?_
  intro r S' h' hq
  obtain ⟨e1, hh, e3, hb3⟩ := hq
  rw [e1, hh, e3]
  refine j_if_eq (tgt := 18) C dX11_turn_4 (by decide) (fun c0 => ?_) (fun c0 => ?_)
  · have hP := hP.1 c0
    rw [if_pos c0] at hR
    refine j_iconst (v := (-1)) C dX11_turn_18 (by decide) ?_
    exact RETi_u hR _ _ dX11_turn_19
  · have hP := hP.2 c0
    rw [if_neg c0] at hR
    refine j_iload_n C dX11_turn_7 rfl rfl ?_
    refine j_iconst (v := 1) C dX11_turn_8 (by decide) ?_
    refine j_icmp_lt (tgt := 18) C dX11_turn_9 (by decide) (fun c1 => ?_) (fun c1 => ?_)
    · have hP := hP.1 c1
      rw [if_pos c1] at hR
      refine j_iconst (v := (-1)) C dX11_turn_18 (by decide) ?_
      exact RETi_u hR _ _ dX11_turn_19
    · have hP := hP.2 c1
      rw [if_neg c1] at hR
      refine j_iload_n C dX11_turn_12 rfl rfl ?_
      refine j_bipush (v := 100) C dX11_turn_13 (by decide) ?_
      refine j_icmp_le (tgt := 20) C dX11_turn_15 (by decide) (fun c2 => ?_) (fun c2 => ?_)
      · have hP := hP.1 c2
        rw [if_pos c2] at hR
        refine j_aload_n C dX11_turn_20 rfl rfl ?_
        refine gCRX11_12 C dX11_turn_21 (W.lt 0 (by decide)) (sh_0 W) rfl ?_
        refine gCRX11_93 (v := (h 1 7)) C dX11_turn_24 (W.lt 1 (by decide)) (sh_1 W) rfl rfl ?_
        refine j_bipush (v := 40) C dX11_turn_27 (by decide) ?_
        refine j_icmp_lt (tgt := 35) C dX11_turn_29 (by decide) (fun c3 => ?_) (fun c3 => ?_)
        · have hP := hP.1 c3
          rw [if_pos c3] at hR
          refine j_aload_n C dX11_turn_35 rfl rfl ?_
          refine gCRX11_12 C dX11_turn_36 (W.lt 0 (by decide)) (sh_0 W) rfl ?_
          refine gCRX11_96 C dX11_turn_39 (W.lt 1 (by decide)) (sh_1 W) rfl ?_
          refine j_aload_n C dX11_turn_42 rfl rfl ?_
          refine gCRX11_12 C dX11_turn_43 (W.lt 0 (by decide)) (sh_0 W) rfl ?_
          refine gCRX11_93 (v := (h 1 7)) C dX11_turn_46 (W.lt 1 (by decide)) (sh_1 W) rfl rfl ?_
          refine j_iload_n C dX11_turn_49 rfl rfl ?_
          obtain ⟨p7, hP⟩ := hP
          refine j_iast (k := 6) C dX11_turn_50 (W.lt 6 (by decide)) (sh_6 W) p7 ?_
          refine j_aload_n C dX11_turn_51 rfl rfl ?_
          refine gCRX11_12 C dX11_turn_52 (W.lt 0 (by decide)) (sh_0 W) rfl ?_
          refine gCRX11_99 C dX11_turn_55 (W.lt 1 (by decide)) (sh_1 W) rfl ?_
          refine j_aload_n C dX11_turn_58 rfl rfl ?_
          refine gCRX11_12 C dX11_turn_59 (W.lt 0 (by decide)) (sh_0 W) rfl ?_
          refine gCRX11_93 (v := (h 1 7)) C dX11_turn_62 (W.lt 1 (by decide)) (sh_1 W) rfl (hz_k (by decide)) ?_
          refine j_iload_n C dX11_turn_65 rfl rfl ?_
          obtain ⟨p16, hP⟩ := hP
          refine j_iast (k := 7) C dX11_turn_66 (W.lt 7 (by decide)) (sh_7 W) p16 ?_
          refine j_aload_n C dX11_turn_67 rfl rfl ?_
          refine gCRX11_12 C dX11_turn_68 (W.lt 0 (by decide)) (sh_0 W) rfl ?_
          refine j_dup C dX11_turn_71 rfl ?_
          refine gCRX11_93 (v := (h 1 7)) C dX11_turn_72 (W.lt 1 (by decide)) (sh_1 W) rfl ((hz_k (by decide)).trans (hz_k (by decide))) ?_
          refine j_iconst (v := 1) C dX11_turn_75 (by decide) ?_
          refine j_iadd C dX11_turn_76 ?_
          refine pCRX11_93 C dX11_turn_77 (W.lt 1 (by decide)) (sh_1 W) rfl ?_
          refine j_aload_n C dX11_turn_80 rfl rfl ?_
          refine gCRX11_12 C dX11_turn_81 (W.lt 0 (by decide)) (sh_0 W) rfl ?_
          refine gCRX11_93 (v := ((h 1 7) + 1)) C dX11_turn_84 (W.lt 1 (by decide)) (sh_1 W) rfl (hz_e) ?_
          exact RETi_u hR _ _ dX11_turn_87
        · have hP := hP.2 c3
          rw [if_neg c3] at hR
          refine j_bipush (v := (-2)) C dX11_turn_32 (by decide) ?_
          exact RETi_u hR _ _ dX11_turn_34
      · have hP := hP.2 c2
        rw [if_neg c2] at hR
        refine j_iconst (v := (-1)) C dX11_turn_18 (by decide) ?_
        exact RETi_u hR _ _ dX11_turn_19
theorem MX11_turn {l0 : Launch} {Y : fj_Y} {ad : Nat → Nat} {n : Nat} {S : ph_S} {pr : Nat} (W : WS pr n S) (a0 : Int32) (a1 : Int32) (h : ph_H) (hP : PX11_turn a0 a1 h) : MI l0 yX11_turn cX11_turn 3 (some .int) ({ frames := 1, cells := 0, slots := 0, locals := 20 } : Room) Y ad n S h [.ref (ad 0), .int a0, .int a1] (fun r S' h' => S' = S ∧ h' = (FX11_turn a0 a1 h).2 ∧ r = (FX11_turn a0 a1 h).1) := met_i (by decide) (Nat.le_of_ble_eq_true rfl) (fun _ _ _ _ => rfl) (fun X C K => j_vl (tX11_turn W C a0 a1 h hP (fun pc lv hd => K _ _ _ ⟨rfl, rfl, rfl⟩ pc lv hd)) ⟨rfl, rfl, rfl, trivial⟩)

-- X11_freely
def FX11_freely (h : ph_H) : Int32 × ph_H := ((h 1 7), (hs h 1 7 0))
def PX11_freely (h : ph_H) : Prop := True
set_option maxRecDepth 100000 in
set_option maxHeartbeats 4000000 in
theorem tX11_freely {X : fj_X} {Y : fj_Y} {l0 : Launch} {ad : Nat → Nat} {n : Nat} {S : ph_S} {pr : Nat} (W : WS pr n S) (C : FC X Y l0 cX11_freely 2 RX11 ({ frames := 0, cells := 0, slots := 0, locals := 0 } : Room) 0 0 (some .int)) (h : ph_H) (hP : PX11_freely h) (hR : RETi X Y ad n S cX11_freely (FX11_freely h)) : FJ X Y ad n S h 0 [(0, .ref (ad 0))] [] := by
  unfold PX11_freely at hP
  unfold FX11_freely at hR
  refine j_aload_n C dX11_freely_0 rfl rfl ?_
  refine gCRX11_12 C dX11_freely_1 (W.lt 0 (by decide)) (sh_0 W) rfl ?_
  refine gCRX11_93 (v := (h 1 7)) C dX11_freely_4 (W.lt 1 (by decide)) (sh_1 W) rfl rfl ?_
  refine j_istore_n C dX11_freely_7 rfl (by decide) rfl ?_
  refine j_aload_n C dX11_freely_8 rfl rfl ?_
  refine gCRX11_12 C dX11_freely_9 (W.lt 0 (by decide)) (sh_0 W) rfl ?_
  refine j_iconst (v := 0) C dX11_freely_12 (by decide) ?_
  refine pCRX11_93 C dX11_freely_13 (W.lt 1 (by decide)) (sh_1 W) rfl ?_
  refine j_iload_n C dX11_freely_16 rfl rfl ?_
  exact RETi_u hR _ _ dX11_freely_17
theorem MX11_freely {l0 : Launch} {Y : fj_Y} {ad : Nat → Nat} {n : Nat} {S : ph_S} {pr : Nat} (W : WS pr n S) (h : ph_H) (hP : PX11_freely h) : MI l0 yX11_freely cX11_freely 2 (some .int) ({ frames := 0, cells := 0, slots := 0, locals := 0 } : Room) Y ad n S h [.ref (ad 0)] (fun r S' h' => S' = S ∧ h' = (FX11_freely h).2 ∧ r = (FX11_freely h).1) := met_i (by decide) (Nat.le_of_ble_eq_true rfl) (fun _ _ _ _ => rfl) (fun X C K => j_vl (tX11_freely W C h hP (fun pc lv hd => K _ _ _ ⟨rfl, rfl, rfl⟩ pc lv hd)) ⟨rfl, trivial⟩)

-- X10_latestThread
def FX10_latestThread (h : ph_H) : Int32 := if (h 35 11) ≤ 0 then (0) else (if 300 < (h 35 11) then (0) else ((h 36 ((h 35 11).toNatClampNeg))))
def PX10_latestThread (h : ph_H) : Prop := ((h 35 11) ≤ 0 → (True)) ∧ (¬ (h 35 11) ≤ 0 → ((300 < (h 35 11) → (True)) ∧ (¬ 300 < (h 35 11) → (vp_in (h 35 11) 301 ∧ (True)))))
set_option maxRecDepth 100000 in
set_option maxHeartbeats 4000000 in
theorem tX10_latestThread {X : fj_X} {Y : fj_Y} {l0 : Launch} {ad : Nat → Nat} {n : Nat} {S : ph_S} {pr : Nat} (W : WS pr n S) (C : FC X Y l0 cX10_latestThread 1 RX10 ({ frames := 0, cells := 0, slots := 0, locals := 0 } : Room) 0 0 (some .int)) (h : ph_H) (hP : PX10_latestThread h) (hR : RETp X Y ad n S h cX10_latestThread (FX10_latestThread h)) : FJ X Y ad n S h 0 [(0, .ref (ad 35))] [] := by
  unfold PX10_latestThread at hP
  unfold FX10_latestThread at hR
  refine j_aload_n C dX10_latestThread_0 rfl rfl ?_
  refine gCRX10_45 (v := (h 35 11)) C dX10_latestThread_1 (W.lt 35 (by decide)) (sh_35 W) rfl rfl ?_
  refine j_if_le (tgt := 29) C dX10_latestThread_4 (by decide) (fun c0 => ?_) (fun c0 => ?_)
  · have hP := hP.1 c0
    rw [if_pos c0] at hR
    refine j_iconst (v := 0) C dX10_latestThread_29 (by decide) ?_
    exact hR _ _ dX10_latestThread_30
  · have hP := hP.2 c0
    rw [if_neg c0] at hR
    refine j_aload_n C dX10_latestThread_7 rfl rfl ?_
    refine gCRX10_45 (v := (h 35 11)) C dX10_latestThread_8 (W.lt 35 (by decide)) (sh_35 W) rfl rfl ?_
    refine j_sipush (v := 300) C dX10_latestThread_11 (by decide) ?_
    refine j_icmp_gt (tgt := 29) C dX10_latestThread_14 (by decide) (fun c1 => ?_) (fun c1 => ?_)
    · have hP := hP.1 c1
      rw [if_pos c1] at hR
      refine j_iconst (v := 0) C dX10_latestThread_29 (by decide) ?_
      exact hR _ _ dX10_latestThread_30
    · have hP := hP.2 c1
      rw [if_neg c1] at hR
      refine j_aload_n C dX10_latestThread_17 rfl rfl ?_
      refine gCRX10_9 C dX10_latestThread_18 (W.lt 35 (by decide)) (sh_35 W) rfl ?_
      refine j_aload_n C dX10_latestThread_21 rfl rfl ?_
      refine gCRX10_45 (v := (h 35 11)) C dX10_latestThread_22 (W.lt 35 (by decide)) (sh_35 W) rfl rfl ?_
      obtain ⟨p4, hP⟩ := hP
      refine j_iald (k := 36) (v := (h 36 ((h 35 11).toNatClampNeg))) C dX10_latestThread_25 (W.lt 36 (by decide)) (sh_36 W) p4 rfl ?_
      refine j_goto (tgt := 30) C dX10_latestThread_26 (by decide) ?_
      exact hR _ _ dX10_latestThread_30
theorem MX10_latestThread {l0 : Launch} {Y : fj_Y} {ad : Nat → Nat} {n : Nat} {S : ph_S} {pr : Nat} (W : WS pr n S) (h : ph_H) (hP : PX10_latestThread h) : MI l0 yX10_latestThread cX10_latestThread 1 (some .int) ({ frames := 0, cells := 0, slots := 0, locals := 0 } : Room) Y ad n S h [.ref (ad 35)] (fun r S' h' => S' = S ∧ h' = h ∧ r = FX10_latestThread h) := met_i (by decide) (Nat.le_of_ble_eq_true rfl) (fun _ _ _ _ => rfl) (fun X C K => j_vl (tX10_latestThread W C h hP (fun pc lv hd => K _ _ _ ⟨rfl, rfl, rfl⟩ pc lv hd)) ⟨rfl, trivial⟩)

-- X10_noteChange
def FX10_noteChange (a0 : Int32) (h : ph_H) : ph_H := if a0 = (FX10_latestThread h) then (h) else ((hs (hs (hs h 45 (h 35 12).toNatClampNeg (h 35 11)) 46 (h 35 12).toNatClampNeg a0) 35 12 ((h 35 12) + 1)))
def PX10_noteChange (a0 : Int32) (h : ph_H) : Prop := (PX10_latestThread h) ∧ ((a0 = (FX10_latestThread h) → (True)) ∧ (¬ a0 = (FX10_latestThread h) → (vp_in (h 35 12) 300 ∧ (vp_in (h 35 12) 300 ∧ (True)))))
set_option maxRecDepth 100000 in
set_option maxHeartbeats 4000000 in
theorem tX10_noteChange {X : fj_X} {Y : fj_Y} {l0 : Launch} {ad : Nat → Nat} {n : Nat} {S : ph_S} {pr : Nat} (W : WS pr n S) (C : FC X Y l0 cX10_noteChange 2 RX10 ({ frames := 1, cells := 0, slots := 0, locals := 20 } : Room) 0 0 none) (a0 : Int32) (h : ph_H) (hP : PX10_noteChange a0 h) (hR : RETv X Y ad n S cX10_noteChange (FX10_noteChange a0 h)) : FJ X Y ad n S h 0 [(0, .ref (ad 35)), (1, .int a0)] [] := by
  unfold PX10_noteChange at hP
  unfold FX10_noteChange at hR
  refine j_iload_n C dX10_noteChange_0 rfl rfl ?_
  refine j_aload_n C dX10_noteChange_1 rfl rfl ?_
  obtain ⟨p2, hP⟩ := hP
  refine j_callV C (MX10_latestThread W h p2) dX10_noteChange_2 (CKX10_latestThread (by decide)) ⟨rfl, rfl⟩ lk_RX10_101 in_X10_latestThread se_X10_latestThread (W.lt 35 (by decide)) (sh_35 W) rfl rfl (Nat.le_of_ble_eq_true rfl) ?_
  intro r S' h' hq
  obtain ⟨e1, hh, e3⟩ := hq
  rw [e1, hh, e3]
  refine j_icmp_eq (tgt := 41) C dX10_noteChange_5 (by decide) (fun c0 => ?_) (fun c0 => ?_)
  · have hP := hP.1 c0
    rw [if_pos c0] at hR
    exact hR _ _ dX10_noteChange_41
  · have hP := hP.2 c0
    rw [if_neg c0] at hR
    refine j_aload_n C dX10_noteChange_8 rfl rfl ?_
    refine gCRX10_39 C dX10_noteChange_9 (W.lt 35 (by decide)) (sh_35 W) rfl ?_
    refine j_aload_n C dX10_noteChange_12 rfl rfl ?_
    refine gCRX10_49 (v := (h 35 12)) C dX10_noteChange_13 (W.lt 35 (by decide)) (sh_35 W) rfl rfl ?_
    refine j_aload_n C dX10_noteChange_16 rfl rfl ?_
    refine gCRX10_45 (v := (h 35 11)) C dX10_noteChange_17 (W.lt 35 (by decide)) (sh_35 W) rfl rfl ?_
    obtain ⟨p6, hP⟩ := hP
    refine j_iast (k := 45) C dX10_noteChange_20 (W.lt 45 (by decide)) (sh_45 W) p6 ?_
    refine j_aload_n C dX10_noteChange_21 rfl rfl ?_
    refine gCRX10_42 C dX10_noteChange_22 (W.lt 35 (by decide)) (sh_35 W) rfl ?_
    refine j_aload_n C dX10_noteChange_25 rfl rfl ?_
    refine gCRX10_49 (v := (h 35 12)) C dX10_noteChange_26 (W.lt 35 (by decide)) (sh_35 W) rfl (hz_k (by decide)) ?_
    refine j_iload_n C dX10_noteChange_29 rfl rfl ?_
    obtain ⟨p13, hP⟩ := hP
    refine j_iast (k := 46) C dX10_noteChange_30 (W.lt 46 (by decide)) (sh_46 W) p13 ?_
    refine j_aload_n C dX10_noteChange_31 rfl rfl ?_
    refine j_dup C dX10_noteChange_32 rfl ?_
    refine gCRX10_49 (v := (h 35 12)) C dX10_noteChange_33 (W.lt 35 (by decide)) (sh_35 W) rfl ((hz_k (by decide)).trans (hz_k (by decide))) ?_
    refine j_iconst (v := 1) C dX10_noteChange_36 (by decide) ?_
    refine j_iadd C dX10_noteChange_37 ?_
    refine pCRX10_49 C dX10_noteChange_38 (W.lt 35 (by decide)) (sh_35 W) rfl ?_
    exact hR _ _ dX10_noteChange_41
theorem MX10_noteChange {l0 : Launch} {Y : fj_Y} {ad : Nat → Nat} {n : Nat} {S : ph_S} {pr : Nat} (W : WS pr n S) (a0 : Int32) (h : ph_H) (hP : PX10_noteChange a0 h) : MV l0 yX10_noteChange cX10_noteChange 2 ({ frames := 1, cells := 0, slots := 0, locals := 20 } : Room) Y ad n S h [.ref (ad 35), .int a0] (fun S' h' => S' = S ∧ h' = FX10_noteChange a0 h) := met_v (by decide) (Nat.le_of_ble_eq_true rfl) (fun X C K => j_vl (tX10_noteChange W C a0 h hP (fun pc lv hd => K _ _ ⟨rfl, rfl⟩ pc lv hd)) ⟨rfl, rfl, trivial⟩)

-- X10_noteEffects_s
def FX10_noteEffects_s_68  (h : ph_H) : ph_H := (hs (hs h 43 (h 35 11).toNatClampNeg (h 15 16)) 44 (h 35 11).toNatClampNeg (h 15 17))
def PX10_noteEffects_s_68  (h : ph_H) : Prop := vp_in (h 35 11) 301 ∧ (vp_in (h 35 11) 301 ∧ (True))
set_option maxRecDepth 100000 in
set_option maxHeartbeats 4000000 in
theorem tX10_noteEffects_s_68 {X : fj_X} {Y : fj_Y} {l0 : Launch} {ad : Nat → Nat} {n : Nat} {S : ph_S} {pr : Nat} (W : WS pr n S) (C : FC X Y l0 cX10_noteEffects 3 RX10 ({ frames := 0, cells := 0, slots := 0, locals := 0 } : Room) 0 0 none) (h : ph_H) (hP : PX10_noteEffects_s_68  h) (hR : RETv X Y ad n S cX10_noteEffects (FX10_noteEffects_s_68  h)) : FJ X Y ad n S h 68 [(0, .ref (ad 35)), (1, .ref (ad 15))] [] := by
  unfold PX10_noteEffects_s_68 at hP
  unfold FX10_noteEffects_s_68 at hR
  refine j_aload_n C dX10_noteEffects_68 rfl rfl ?_
  refine gCRX10_33 C dX10_noteEffects_69 (W.lt 35 (by decide)) (sh_35 W) rfl ?_
  refine j_aload_n C dX10_noteEffects_72 rfl rfl ?_
  refine gCRX10_45 (v := (h 35 11)) C dX10_noteEffects_73 (W.lt 35 (by decide)) (sh_35 W) rfl rfl ?_
  refine j_aload_n C dX10_noteEffects_76 rfl rfl ?_
  refine gCRX10_138 (v := (h 15 16)) C dX10_noteEffects_77 (W.lt 15 (by decide)) (sh_15 W) rfl rfl ?_
  obtain ⟨p6, hP⟩ := hP
  refine j_iast (k := 43) C dX10_noteEffects_80 (W.lt 43 (by decide)) (sh_43 W) p6 ?_
  refine j_aload_n C dX10_noteEffects_81 rfl rfl ?_
  refine gCRX10_36 C dX10_noteEffects_82 (W.lt 35 (by decide)) (sh_35 W) rfl ?_
  refine j_aload_n C dX10_noteEffects_85 rfl rfl ?_
  refine gCRX10_45 (v := (h 35 11)) C dX10_noteEffects_86 (W.lt 35 (by decide)) (sh_35 W) rfl (hz_k (by decide)) ?_
  refine j_aload_n C dX10_noteEffects_89 rfl rfl ?_
  refine gCRX10_141 (v := (h 15 17)) C dX10_noteEffects_90 (W.lt 15 (by decide)) (sh_15 W) rfl (hz_k (by decide)) ?_
  obtain ⟨p14, hP⟩ := hP
  refine j_iast (k := 44) C dX10_noteEffects_93 (W.lt 44 (by decide)) (sh_44 W) p14 ?_
  exact hR _ _ dX10_noteEffects_94
def FX10_noteEffects_s (h : ph_H) : ph_H := if (h 15 15) < 0 then (FX10_noteEffects_s_68  (hs (hs h 39 (h 35 11).toNatClampNeg (h 15 14)) 40 (h 35 11).toNatClampNeg (h 15 15))) else (if 12 ≤ (h 15 15) then (FX10_noteEffects_s_68  (hs (hs h 39 (h 35 11).toNatClampNeg (h 15 14)) 40 (h 35 11).toNatClampNeg (h 15 15))) else (FX10_noteEffects_s_68  (hs (hs (hs (hs h 39 (h 35 11).toNatClampNeg (h 15 14)) 40 (h 35 11).toNatClampNeg (h 15 15)) 41 (h 35 11).toNatClampNeg (h 16 ((h 15 15).toNatClampNeg))) 42 (h 35 11).toNatClampNeg (h 17 ((h 15 15).toNatClampNeg)))))
def PX10_noteEffects_s (h : ph_H) : Prop := vp_in (h 35 11) 301 ∧ (vp_in (h 35 11) 301 ∧ (((h 15 15) < 0 → (PX10_noteEffects_s_68  (hs (hs h 39 (h 35 11).toNatClampNeg (h 15 14)) 40 (h 35 11).toNatClampNeg (h 15 15)))) ∧ (¬ (h 15 15) < 0 → ((12 ≤ (h 15 15) → (PX10_noteEffects_s_68  (hs (hs h 39 (h 35 11).toNatClampNeg (h 15 14)) 40 (h 35 11).toNatClampNeg (h 15 15)))) ∧ (¬ 12 ≤ (h 15 15) → (vp_in (h 15 15) 28 ∧ (vp_in (h 35 11) 301 ∧ (vp_in (h 15 15) 28 ∧ (vp_in (h 35 11) 301 ∧ (PX10_noteEffects_s_68  (hs (hs (hs (hs h 39 (h 35 11).toNatClampNeg (h 15 14)) 40 (h 35 11).toNatClampNeg (h 15 15)) 41 (h 35 11).toNatClampNeg (h 16 ((h 15 15).toNatClampNeg))) 42 (h 35 11).toNatClampNeg (h 17 ((h 15 15).toNatClampNeg)))))))))))))
set_option maxRecDepth 100000 in
set_option maxHeartbeats 4000000 in
theorem tX10_noteEffects_s {X : fj_X} {Y : fj_Y} {l0 : Launch} {ad : Nat → Nat} {n : Nat} {S : ph_S} {pr : Nat} (W : WS pr n S) (C : FC X Y l0 cX10_noteEffects 3 RX10 ({ frames := 0, cells := 0, slots := 0, locals := 0 } : Room) 0 0 none) (h : ph_H) (hP : PX10_noteEffects_s h) (hR : RETv X Y ad n S cX10_noteEffects (FX10_noteEffects_s h)) : FJ X Y ad n S h 0 [(0, .ref (ad 35)), (1, .ref (ad 15))] [] := by
  unfold PX10_noteEffects_s at hP
  unfold FX10_noteEffects_s at hR
  refine j_aload_n C dX10_noteEffects_0 rfl rfl ?_
  refine gCRX10_126 (v := (h 15 15)) C dX10_noteEffects_1 (W.lt 15 (by decide)) (sh_15 W) rfl rfl ?_
  refine j_istore_n C dX10_noteEffects_4 rfl (by decide) rfl ?_
  refine j_aload_n C dX10_noteEffects_5 rfl rfl ?_
  refine gCRX10_21 C dX10_noteEffects_6 (W.lt 35 (by decide)) (sh_35 W) rfl ?_
  refine j_aload_n C dX10_noteEffects_9 rfl rfl ?_
  refine gCRX10_45 (v := (h 35 11)) C dX10_noteEffects_10 (W.lt 35 (by decide)) (sh_35 W) rfl rfl ?_
  refine j_aload_n C dX10_noteEffects_13 rfl rfl ?_
  refine gCRX10_129 (v := (h 15 14)) C dX10_noteEffects_14 (W.lt 15 (by decide)) (sh_15 W) rfl rfl ?_
  obtain ⟨p9, hP⟩ := hP
  refine j_iast (k := 39) C dX10_noteEffects_17 (W.lt 39 (by decide)) (sh_39 W) p9 ?_
  refine j_aload_n C dX10_noteEffects_18 rfl rfl ?_
  refine gCRX10_24 C dX10_noteEffects_19 (W.lt 35 (by decide)) (sh_35 W) rfl ?_
  refine j_aload_n C dX10_noteEffects_22 rfl rfl ?_
  refine gCRX10_45 (v := (h 35 11)) C dX10_noteEffects_23 (W.lt 35 (by decide)) (sh_35 W) rfl (hz_k (by decide)) ?_
  refine j_iload_n C dX10_noteEffects_26 rfl rfl ?_
  obtain ⟨p16, hP⟩ := hP
  refine j_iast (k := 40) C dX10_noteEffects_27 (W.lt 40 (by decide)) (sh_40 W) p16 ?_
  refine j_iload_n C dX10_noteEffects_28 rfl rfl ?_
  refine j_if_lt (tgt := 68) C dX10_noteEffects_29 (by decide) (fun c0 => ?_) (fun c0 => ?_)
  · have hP := hP.1 c0
    rw [if_pos c0] at hR
    exact j_vl (tX10_noteEffects_s_68 W C  (hs (hs h 39 (h 35 11).toNatClampNeg (h 15 14)) 40 (h 35 11).toNatClampNeg (h 15 15)) hP hR) ⟨rfl, rfl, trivial⟩
  · have hP := hP.2 c0
    rw [if_neg c0] at hR
    refine j_iload_n C dX10_noteEffects_32 rfl rfl ?_
    refine j_bipush (v := 12) C dX10_noteEffects_33 (by decide) ?_
    refine j_icmp_ge (tgt := 68) C dX10_noteEffects_35 (by decide) (fun c1 => ?_) (fun c1 => ?_)
    · have hP := hP.1 c1
      rw [if_pos c1] at hR
      exact j_vl (tX10_noteEffects_s_68 W C  (hs (hs h 39 (h 35 11).toNatClampNeg (h 15 14)) 40 (h 35 11).toNatClampNeg (h 15 15)) hP hR) ⟨rfl, rfl, trivial⟩
    · have hP := hP.2 c1
      rw [if_neg c1] at hR
      refine j_aload_n C dX10_noteEffects_38 rfl rfl ?_
      refine gCRX10_27 C dX10_noteEffects_39 (W.lt 35 (by decide)) (sh_35 W) rfl ?_
      refine j_aload_n C dX10_noteEffects_42 rfl rfl ?_
      refine gCRX10_45 (v := (h 35 11)) C dX10_noteEffects_43 (W.lt 35 (by decide)) (sh_35 W) rfl ((hz_k (by decide)).trans (hz_k (by decide))) ?_
      refine j_aload_n C dX10_noteEffects_46 rfl rfl ?_
      refine gCRX10_132 C dX10_noteEffects_47 (W.lt 15 (by decide)) (sh_15 W) rfl ?_
      refine j_iload_n C dX10_noteEffects_50 rfl rfl ?_
      obtain ⟨p7, hP⟩ := hP
      refine j_iald (k := 16) (v := (h 16 ((h 15 15).toNatClampNeg))) C dX10_noteEffects_51 (W.lt 16 (by decide)) (sh_16 W) p7 ((hz_k (by decide)).trans (hz_k (by decide))) ?_
      obtain ⟨p9, hP⟩ := hP
      refine j_iast (k := 41) C dX10_noteEffects_52 (W.lt 41 (by decide)) (sh_41 W) p9 ?_
      refine j_aload_n C dX10_noteEffects_53 rfl rfl ?_
      refine gCRX10_30 C dX10_noteEffects_54 (W.lt 35 (by decide)) (sh_35 W) rfl ?_
      refine j_aload_n C dX10_noteEffects_57 rfl rfl ?_
      refine gCRX10_45 (v := (h 35 11)) C dX10_noteEffects_58 (W.lt 35 (by decide)) (sh_35 W) rfl ((hz_k (by decide)).trans ((hz_k (by decide)).trans (hz_k (by decide)))) ?_
      refine j_aload_n C dX10_noteEffects_61 rfl rfl ?_
      refine gCRX10_135 C dX10_noteEffects_62 (W.lt 15 (by decide)) (sh_15 W) rfl ?_
      refine j_iload_n C dX10_noteEffects_65 rfl rfl ?_
      obtain ⟨p18, hP⟩ := hP
      refine j_iald (k := 17) (v := (h 17 ((h 15 15).toNatClampNeg))) C dX10_noteEffects_66 (W.lt 17 (by decide)) (sh_17 W) p18 ((hz_k (by decide)).trans ((hz_k (by decide)).trans (hz_k (by decide)))) ?_
      obtain ⟨p20, hP⟩ := hP
      refine j_iast (k := 42) C dX10_noteEffects_67 (W.lt 42 (by decide)) (sh_42 W) p20 ?_
      exact j_vl (tX10_noteEffects_s_68 W C  (hs (hs (hs (hs h 39 (h 35 11).toNatClampNeg (h 15 14)) 40 (h 35 11).toNatClampNeg (h 15 15)) 41 (h 35 11).toNatClampNeg (h 16 ((h 15 15).toNatClampNeg))) 42 (h 35 11).toNatClampNeg (h 17 ((h 15 15).toNatClampNeg))) hP hR) ⟨rfl, rfl, trivial⟩
theorem MX10_noteEffects_s {l0 : Launch} {Y : fj_Y} {ad : Nat → Nat} {n : Nat} {S : ph_S} {pr : Nat} (W : WS pr n S) (h : ph_H) (hP : PX10_noteEffects_s h) : MV l0 yX10_noteEffects cX10_noteEffects 3 ({ frames := 0, cells := 0, slots := 0, locals := 0 } : Room) Y ad n S h [.ref (ad 35), .ref (ad 15)] (fun S' h' => S' = S ∧ h' = FX10_noteEffects_s h) := met_v (by decide) (Nat.le_of_ble_eq_true rfl) (fun X C K => j_vl (tX10_noteEffects_s W C h hP (fun pc lv hd => K _ _ ⟨rfl, rfl⟩ pc lv hd)) ⟨rfl, rfl, trivial⟩)

-- X5_has_t
def FX5_has_t (a0 : Int32) (a1 : Int32) (h : ph_H) : Int32 := if a1 < 0 then (0) else (if 24 ≤ a1 then (0) else (if (h 9 (a0.toNatClampNeg)) ≤ a1 then (0) else (1)))
def PX5_has_t (a0 : Int32) (a1 : Int32) (h : ph_H) : Prop := (a1 < 0 → (True)) ∧ (¬ a1 < 0 → ((24 ≤ a1 → (True)) ∧ (¬ 24 ≤ a1 → (vp_in a0 4 ∧ (((h 9 (a0.toNatClampNeg)) ≤ a1 → (True)) ∧ (¬ (h 9 (a0.toNatClampNeg)) ≤ a1 → (True)))))))
set_option maxRecDepth 100000 in
set_option maxHeartbeats 4000000 in
theorem tX5_has_t {X : fj_X} {Y : fj_Y} {l0 : Launch} {ad : Nat → Nat} {n : Nat} {S : ph_S} {pr : Nat} (W : WS pr n S) (C : FC X Y l0 cX5_has 3 RX5 ({ frames := 0, cells := 0, slots := 0, locals := 0 } : Room) 0 0 (some .boolean)) (a0 : Int32) (a1 : Int32) (h : ph_H) (hP : PX5_has_t a0 a1 h) (hR : RETq X Y ad n S h cX5_has (FX5_has_t a0 a1 h)) : FJ X Y ad n S h 0 [(0, .ref (ad 8)), (1, .int a0), (2, .int a1)] [] := by
  unfold PX5_has_t at hP
  unfold FX5_has_t at hR
  refine j_iload_n C dX5_has_0 rfl rfl ?_
  refine j_if_lt (tgt := 24) C dX5_has_1 (by decide) (fun c0 => ?_) (fun c0 => ?_)
  · have hP := hP.1 c0
    rw [if_pos c0] at hR
    refine j_iconst (v := 0) C dX5_has_24 (by decide) ?_
    exact hR bo_0 _ _ dX5_has_25
  · have hP := hP.2 c0
    rw [if_neg c0] at hR
    refine j_iload_n C dX5_has_4 rfl rfl ?_
    refine j_bipush (v := 24) C dX5_has_5 (by decide) ?_
    refine j_icmp_ge (tgt := 24) C dX5_has_7 (by decide) (fun c1 => ?_) (fun c1 => ?_)
    · have hP := hP.1 c1
      rw [if_pos c1] at hR
      refine j_iconst (v := 0) C dX5_has_24 (by decide) ?_
      exact hR bo_0 _ _ dX5_has_25
    · have hP := hP.2 c1
      rw [if_neg c1] at hR
      refine j_iload_n C dX5_has_10 rfl rfl ?_
      refine j_aload_n C dX5_has_11 rfl rfl ?_
      refine gCRX5_9 C dX5_has_12 (W.lt 8 (by decide)) (sh_8 W) rfl ?_
      refine j_iload_n C dX5_has_15 rfl rfl ?_
      obtain ⟨p4, hP⟩ := hP
      refine j_iald (k := 9) (v := (h 9 (a0.toNatClampNeg))) C dX5_has_16 (W.lt 9 (by decide)) (sh_9 W) p4 rfl ?_
      refine j_icmp_ge (tgt := 24) C dX5_has_17 (by decide) (fun c2 => ?_) (fun c2 => ?_)
      · have hP := hP.1 c2
        rw [if_pos c2] at hR
        refine j_iconst (v := 0) C dX5_has_24 (by decide) ?_
        exact hR bo_0 _ _ dX5_has_25
      · have hP := hP.2 c2
        rw [if_neg c2] at hR
        refine j_iconst (v := 1) C dX5_has_20 (by decide) ?_
        refine j_goto (tgt := 25) C dX5_has_21 (by decide) ?_
        exact hR bo_1 _ _ dX5_has_25
theorem MX5_has_t {l0 : Launch} {Y : fj_Y} {ad : Nat → Nat} {n : Nat} {S : ph_S} {pr : Nat} (W : WS pr n S) (a0 : Int32) (a1 : Int32) (h : ph_H) (hP : PX5_has_t a0 a1 h) : MI l0 yX5_has cX5_has 3 (some .boolean) ({ frames := 0, cells := 0, slots := 0, locals := 0 } : Room) Y ad n S h [.ref (ad 8), .int a0, .int a1] (fun r S' h' => S' = S ∧ h' = h ∧ r = FX5_has_t a0 a1 h ∧ bo r) := met_i (by decide) (Nat.le_of_ble_eq_true rfl) (fun _ _ _ q => bo_n q.2.2.2) (fun X C K => j_vl (tX5_has_t W C a0 a1 h hP (fun b pc lv hd => K _ _ _ ⟨rfl, rfl, rfl, b⟩ pc lv hd)) ⟨rfl, rfl, rfl, trivial⟩)

-- X3_hasEnded_s
def FX3_hasEnded_s (a0 : Int32) (h : ph_H) : Int32 := if (FX5_has_t a0 (h 18 (a0.toNatClampNeg)) h) = 0 then (1) else (0)
def PX3_hasEnded_s (a0 : Int32) (h : ph_H) : Prop := vp_in a0 4 ∧ ((PX5_has_t a0 (h 18 (a0.toNatClampNeg)) h) ∧ (((FX5_has_t a0 (h 18 (a0.toNatClampNeg)) h) = 0 → (True)) ∧ (¬ (FX5_has_t a0 (h 18 (a0.toNatClampNeg)) h) = 0 → (True))))
set_option maxRecDepth 100000 in
set_option maxHeartbeats 4000000 in
theorem tX3_hasEnded_s {X : fj_X} {Y : fj_Y} {l0 : Launch} {ad : Nat → Nat} {n : Nat} {S : ph_S} {pr : Nat} (W : WS pr n S) (C : FC X Y l0 cX3_hasEnded 2 RX3 ({ frames := 1, cells := 0, slots := 0, locals := 22 } : Room) 0 0 (some .boolean)) (a0 : Int32) (h : ph_H) (hP : PX3_hasEnded_s a0 h) (hR : RETq X Y ad n S h cX3_hasEnded (FX3_hasEnded_s a0 h)) : FJ X Y ad n S h 0 [(0, .ref (ad 15)), (1, .int a0)] [] := by
  unfold PX3_hasEnded_s at hP
  unfold FX3_hasEnded_s at hR
  refine j_aload_n C dX3_hasEnded_0 rfl rfl ?_
  refine gCRX3_39 C dX3_hasEnded_1 (W.lt 15 (by decide)) (sh_15 W) rfl ?_
  refine j_iload_n C dX3_hasEnded_4 rfl rfl ?_
  refine j_aload_n C dX3_hasEnded_5 rfl rfl ?_
  refine gCRX3_18 C dX3_hasEnded_6 (W.lt 15 (by decide)) (sh_15 W) rfl ?_
  refine j_iload_n C dX3_hasEnded_9 rfl rfl ?_
  obtain ⟨p6, hP⟩ := hP
  refine j_iald (k := 18) (v := (h 18 (a0.toNatClampNeg))) C dX3_hasEnded_10 (W.lt 18 (by decide)) (sh_18 W) p6 rfl ?_
  obtain ⟨p8, hP⟩ := hP
  refine j_callV C (MX5_has_t W a0 (h 18 (a0.toNatClampNeg)) h p8) dX3_hasEnded_11 (CKX5_has (by decide)) ⟨rfl, rfl⟩ lk_RX3_70 in_X5_has se_X5_has (W.lt 8 (by decide)) (sh_8 W) rfl rfl (Nat.le_of_ble_eq_true rfl) ?_
  intro r S' h' hq
  obtain ⟨e1, hh, e3, hb10⟩ := hq
  rw [e1, hh, e3]
  refine j_if_ne (tgt := 21) C dX3_hasEnded_14 (by decide) (fun c0 => ?_) (fun c0 => ?_)
  · have hP := hP.2 c0
    rw [if_neg c0] at hR
    refine j_iconst (v := 0) C dX3_hasEnded_21 (by decide) ?_
    exact hR bo_0 _ _ dX3_hasEnded_22
  · have hP := hP.1 c0
    rw [if_pos c0] at hR
    refine j_iconst (v := 1) C dX3_hasEnded_17 (by decide) ?_
    refine j_goto (tgt := 22) C dX3_hasEnded_18 (by decide) ?_
    exact hR bo_1 _ _ dX3_hasEnded_22
theorem MX3_hasEnded_s {l0 : Launch} {Y : fj_Y} {ad : Nat → Nat} {n : Nat} {S : ph_S} {pr : Nat} (W : WS pr n S) (a0 : Int32) (h : ph_H) (hP : PX3_hasEnded_s a0 h) : MI l0 yX3_hasEnded cX3_hasEnded 2 (some .boolean) ({ frames := 1, cells := 0, slots := 0, locals := 22 } : Room) Y ad n S h [.ref (ad 15), .int a0] (fun r S' h' => S' = S ∧ h' = h ∧ r = FX3_hasEnded_s a0 h ∧ bo r) := met_i (by decide) (Nat.le_of_ble_eq_true rfl) (fun _ _ _ q => bo_n q.2.2.2) (fun X C K => j_vl (tX3_hasEnded_s W C a0 h hP (fun b pc lv hd => K _ _ _ ⟨rfl, rfl, rfl, b⟩ pc lv hd)) ⟨rfl, rfl, trivial⟩)

-- X3_lockIn_s
def FX3_lockIn_s_20  (x1 : Int32) (h : ph_H) : Int32 := (h 17 (x1.toNatClampNeg))
def PX3_lockIn_s_20  (x1 : Int32) (h : ph_H) : Prop := vp_in x1 28 ∧ (True)
set_option maxRecDepth 100000 in
set_option maxHeartbeats 4000000 in
theorem tX3_lockIn_s_20 {X : fj_X} {Y : fj_Y} {l0 : Launch} {ad : Nat → Nat} {n : Nat} {S : ph_S} {pr : Nat} (W : WS pr n S) (C : FC X Y l0 cX3_lockIn 2 RX3 ({ frames := 0, cells := 0, slots := 0, locals := 0 } : Room) 0 0 (some .int)) (h : ph_H) (x1 : Int32) (hP : PX3_lockIn_s_20  x1 h) (hR : RETp X Y ad n S h cX3_lockIn (FX3_lockIn_s_20  x1 h)) : FJ X Y ad n S h 20 [(0, .ref (ad 15)), (1, .int x1)] [] := by
  unfold PX3_lockIn_s_20 at hP
  unfold FX3_lockIn_s_20 at hR
  refine j_aload_n C dX3_lockIn_20 rfl rfl ?_
  refine gCRX3_15 C dX3_lockIn_21 (W.lt 15 (by decide)) (sh_15 W) rfl ?_
  refine j_iload_n C dX3_lockIn_24 rfl rfl ?_
  obtain ⟨p3, hP⟩ := hP
  refine j_iald (k := 17) (v := (h 17 (x1.toNatClampNeg))) C dX3_lockIn_25 (W.lt 17 (by decide)) (sh_17 W) p3 rfl ?_
  refine j_goto (tgt := 30) C dX3_lockIn_26 (by decide) ?_
  exact hR _ _ dX3_lockIn_30
def FX3_lockIn_s (a0 : Int32) (h : ph_H) : Int32 := if (h 16 (a0.toNatClampNeg)) = 2 then (FX3_lockIn_s_20  a0 h) else (if (h 16 (a0.toNatClampNeg)) = 3 then (FX3_lockIn_s_20  a0 h) else ((-1)))
def PX3_lockIn_s (a0 : Int32) (h : ph_H) : Prop := vp_in a0 28 ∧ (((h 16 (a0.toNatClampNeg)) = 2 → (PX3_lockIn_s_20  a0 h)) ∧ (¬ (h 16 (a0.toNatClampNeg)) = 2 → (vp_in a0 28 ∧ (((h 16 (a0.toNatClampNeg)) = 3 → (PX3_lockIn_s_20  a0 h)) ∧ (¬ (h 16 (a0.toNatClampNeg)) = 3 → (True))))))
set_option maxRecDepth 100000 in
set_option maxHeartbeats 4000000 in
theorem tX3_lockIn_s {X : fj_X} {Y : fj_Y} {l0 : Launch} {ad : Nat → Nat} {n : Nat} {S : ph_S} {pr : Nat} (W : WS pr n S) (C : FC X Y l0 cX3_lockIn 2 RX3 ({ frames := 0, cells := 0, slots := 0, locals := 0 } : Room) 0 0 (some .int)) (a0 : Int32) (h : ph_H) (hP : PX3_lockIn_s a0 h) (hR : RETp X Y ad n S h cX3_lockIn (FX3_lockIn_s a0 h)) : FJ X Y ad n S h 0 [(0, .ref (ad 15)), (1, .int a0)] [] := by
  unfold PX3_lockIn_s at hP
  unfold FX3_lockIn_s at hR
  refine j_aload_n C dX3_lockIn_0 rfl rfl ?_
  refine gCRX3_9 C dX3_lockIn_1 (W.lt 15 (by decide)) (sh_15 W) rfl ?_
  refine j_iload_n C dX3_lockIn_4 rfl rfl ?_
  obtain ⟨p3, hP⟩ := hP
  refine j_iald (k := 16) (v := (h 16 (a0.toNatClampNeg))) C dX3_lockIn_5 (W.lt 16 (by decide)) (sh_16 W) p3 rfl ?_
  refine j_iconst (v := 2) C dX3_lockIn_6 (by decide) ?_
  refine j_icmp_eq (tgt := 20) C dX3_lockIn_7 (by decide) (fun c0 => ?_) (fun c0 => ?_)
  · have hP := hP.1 c0
    rw [if_pos c0] at hR
    exact j_vl (tX3_lockIn_s_20 W C h a0 hP hR) ⟨rfl, rfl, trivial⟩
  · have hP := hP.2 c0
    rw [if_neg c0] at hR
    refine j_aload_n C dX3_lockIn_10 rfl rfl ?_
    refine gCRX3_9 C dX3_lockIn_11 (W.lt 15 (by decide)) (sh_15 W) rfl ?_
    refine j_iload_n C dX3_lockIn_14 rfl rfl ?_
    obtain ⟨p3, hP⟩ := hP
    refine j_iald (k := 16) (v := (h 16 (a0.toNatClampNeg))) C dX3_lockIn_15 (W.lt 16 (by decide)) (sh_16 W) p3 rfl ?_
    refine j_iconst (v := 3) C dX3_lockIn_16 (by decide) ?_
    refine j_icmp_ne (tgt := 29) C dX3_lockIn_17 (by decide) (fun c1 => ?_) (fun c1 => ?_)
    · have hP := hP.2 c1
      rw [if_neg c1] at hR
      refine j_iconst (v := (-1)) C dX3_lockIn_29 (by decide) ?_
      exact hR _ _ dX3_lockIn_30
    · have hP := hP.1 c1
      rw [if_pos c1] at hR
      exact j_vl (tX3_lockIn_s_20 W C h a0 hP hR) ⟨rfl, rfl, trivial⟩
theorem MX3_lockIn_s {l0 : Launch} {Y : fj_Y} {ad : Nat → Nat} {n : Nat} {S : ph_S} {pr : Nat} (W : WS pr n S) (a0 : Int32) (h : ph_H) (hP : PX3_lockIn_s a0 h) : MI l0 yX3_lockIn cX3_lockIn 2 (some .int) ({ frames := 0, cells := 0, slots := 0, locals := 0 } : Room) Y ad n S h [.ref (ad 15), .int a0] (fun r S' h' => S' = S ∧ h' = h ∧ r = FX3_lockIn_s a0 h) := met_i (by decide) (Nat.le_of_ble_eq_true rfl) (fun _ _ _ _ => rfl) (fun X C K => j_vl (tX3_lockIn_s W C a0 h hP (fun pc lv hd => K _ _ _ ⟨rfl, rfl, rfl⟩ pc lv hd)) ⟨rfl, rfl, trivial⟩)

-- J9_floorMod_7cf53
def FJ9_floorMod_7cf53 (a0 : Int32) (a1 : Int32) : Int32 := if 0 ≤ (a0 ^^^ a1) then ((a0 - a0 / a1 * a1)) else (if (a0 - a0 / a1 * a1) = 0 then ((a0 - a0 / a1 * a1)) else (((a0 - a0 / a1 * a1) + a1)))
def PJ9_floorMod_7cf53 (a0 : Int32) (a1 : Int32) : Prop := ¬ a1 = 0 ∧ ((0 ≤ (a0 ^^^ a1) → (True)) ∧ (¬ 0 ≤ (a0 ^^^ a1) → (((a0 - a0 / a1 * a1) = 0 → (True)) ∧ (¬ (a0 - a0 / a1 * a1) = 0 → (True)))))
set_option maxRecDepth 100000 in
set_option maxHeartbeats 4000000 in
theorem tJ9_floorMod_7cf53 {X : fj_X} {Y : fj_Y} {l0 : Launch} {ad : Nat → Nat} {n : Nat} {S : ph_S} {pr : Nat} (W : WS pr n S) (C : FC X Y l0 cJ9_floorMod_7cf53 3 RJ9 ({ frames := 0, cells := 0, slots := 0, locals := 0 } : Room) 0 0 (some .int)) (a0 : Int32) (a1 : Int32) (h : ph_H) (hP : PJ9_floorMod_7cf53 a0 a1) (hR : RETp X Y ad n S h cJ9_floorMod_7cf53 (FJ9_floorMod_7cf53 a0 a1)) : FJ X Y ad n S h 0 [(0, .int a0), (1, .int a1)] [] := by
  unfold PJ9_floorMod_7cf53 at hP
  unfold FJ9_floorMod_7cf53 at hR
  refine j_iload_n C dJ9_floorMod_7cf53_0 rfl rfl ?_
  refine j_iload_n C dJ9_floorMod_7cf53_1 rfl rfl ?_
  obtain ⟨p2, hP⟩ := hP
  refine j_irem C dJ9_floorMod_7cf53_2 p2 ?_
  refine j_istore_n C dJ9_floorMod_7cf53_3 rfl (by decide) rfl ?_
  refine j_iload_n C dJ9_floorMod_7cf53_4 rfl rfl ?_
  refine j_iload_n C dJ9_floorMod_7cf53_5 rfl rfl ?_
  refine j_ixor C dJ9_floorMod_7cf53_6 ?_
  refine j_if_ge (tgt := 18) C dJ9_floorMod_7cf53_7 (by decide) (fun c0 => ?_) (fun c0 => ?_)
  · have hP := hP.1 c0
    rw [if_pos c0] at hR
    refine j_iload_n C dJ9_floorMod_7cf53_18 rfl rfl ?_
    exact hR _ _ dJ9_floorMod_7cf53_19
  · have hP := hP.2 c0
    rw [if_neg c0] at hR
    refine j_iload_n C dJ9_floorMod_7cf53_10 rfl rfl ?_
    refine j_if_eq (tgt := 18) C dJ9_floorMod_7cf53_11 (by decide) (fun c1 => ?_) (fun c1 => ?_)
    · have hP := hP.1 c1
      rw [if_pos c1] at hR
      refine j_iload_n C dJ9_floorMod_7cf53_18 rfl rfl ?_
      exact hR _ _ dJ9_floorMod_7cf53_19
    · have hP := hP.2 c1
      rw [if_neg c1] at hR
      refine j_iload_n C dJ9_floorMod_7cf53_14 rfl rfl ?_
      refine j_iload_n C dJ9_floorMod_7cf53_15 rfl rfl ?_
      refine j_iadd C dJ9_floorMod_7cf53_16 ?_
      exact hR _ _ dJ9_floorMod_7cf53_17
theorem MJ9_floorMod_7cf53 {l0 : Launch} {Y : fj_Y} {ad : Nat → Nat} {n : Nat} {S : ph_S} {pr : Nat} (W : WS pr n S) (a0 : Int32) (a1 : Int32) (h : ph_H) (hP : PJ9_floorMod_7cf53 a0 a1) : MI l0 yJ9_floorMod_7cf53 cJ9_floorMod_7cf53 3 (some .int) ({ frames := 0, cells := 0, slots := 0, locals := 0 } : Room) Y ad n S h [.int a0, .int a1] (fun r S' h' => S' = S ∧ h' = h ∧ r = FJ9_floorMod_7cf53 a0 a1) := met_iF (by decide +kernel) (Nat.le_of_ble_eq_true rfl) (fun _ _ _ _ => rfl) (fun X C K => j_vl (tJ9_floorMod_7cf53 W C a0 a1 h hP (fun pc lv hd => K _ _ _ ⟨rfl, rfl, rfl⟩ pc lv hd)) ⟨rfl, rfl, trivial⟩)

-- X3_slotOf
def FX3_slotOf (a0 : Int32) (a1 : Int32) : Int32 := ((12 + (a0 * 4)) + (FJ9_floorMod_7cf53 a1 4))
def PX3_slotOf (a0 : Int32) (a1 : Int32) : Prop := (PJ9_floorMod_7cf53 a1 4) ∧ (True)
set_option maxRecDepth 100000 in
set_option maxHeartbeats 4000000 in
theorem tX3_slotOf {X : fj_X} {Y : fj_Y} {l0 : Launch} {ad : Nat → Nat} {n : Nat} {S : ph_S} {pr : Nat} (W : WS pr n S) (C : FC X Y l0 cX3_slotOf 2 RX3 ({ frames := 1, cells := 0, slots := 0, locals := 22 } : Room) 0 0 (some .int)) (a0 : Int32) (a1 : Int32) (h : ph_H) (hP : PX3_slotOf a0 a1) (hR : RETp X Y ad n S h cX3_slotOf (FX3_slotOf a0 a1)) : FJ X Y ad n S h 0 [(0, .int a0), (1, .int a1)] [] := by
  unfold PX3_slotOf at hP
  unfold FX3_slotOf at hR
  refine j_bipush (v := 12) C dX3_slotOf_0 (by decide) ?_
  refine j_iload_n C dX3_slotOf_2 rfl rfl ?_
  refine j_iconst (v := 4) C dX3_slotOf_3 (by decide) ?_
  refine j_imul C dX3_slotOf_4 ?_
  refine j_iadd C dX3_slotOf_5 ?_
  refine j_iload_n C dX3_slotOf_6 rfl rfl ?_
  refine j_iconst (v := 4) C dX3_slotOf_7 (by decide) ?_
  obtain ⟨p7, hP⟩ := hP
  refine j_callS C (MJ9_floorMod_7cf53 W a1 4 h p7) dX3_slotOf_8 (CKJ9_floorMod_7cf53 (by decide)) ⟨rfl, rfl⟩ lk_RX3_139 st_J9_floorMod_7cf53 rfl (Nat.le_of_ble_eq_true rfl) ?_
  intro r S' h' hq
  obtain ⟨e1, hh, e3⟩ := hq
  rw [e1, hh, e3]
  refine j_iadd C dX3_slotOf_11 ?_
  exact hR _ _ dX3_slotOf_12
theorem MX3_slotOf {l0 : Launch} {Y : fj_Y} {ad : Nat → Nat} {n : Nat} {S : ph_S} {pr : Nat} (W : WS pr n S) (a0 : Int32) (a1 : Int32) (h : ph_H) (hP : PX3_slotOf a0 a1) : MI l0 yX3_slotOf cX3_slotOf 2 (some .int) ({ frames := 1, cells := 0, slots := 0, locals := 22 } : Room) Y ad n S h [.int a0, .int a1] (fun r S' h' => S' = S ∧ h' = h ∧ r = FX3_slotOf a0 a1) := met_i (by decide) (Nat.le_of_ble_eq_true rfl) (fun _ _ _ _ => rfl) (fun X C K => j_vl (tX3_slotOf W C a0 a1 h hP (fun pc lv hd => K _ _ _ ⟨rfl, rfl, rfl⟩ pc lv hd)) ⟨rfl, rfl, trivial⟩)
