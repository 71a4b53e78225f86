-- X11_find
def FX11_find (a0 : Int32) (a1 : Int32) (h : ph_H) : Int32 × ph_H := if a0 < 0 then (((-1), h)) else (if 2 < a0 then (((-1), h)) else (if a1 < 1 then (((-1), h)) else (if a1 ≤ 100 then (((FX6_look a0 a1 h).1, (FX6_look a0 a1 h).2)) else (((-1), h)))))
def PX11_find (a0 : Int32) (a1 : Int32) (h : ph_H) : Prop := (a0 < 0 → (True)) ∧ (¬ a0 < 0 → ((2 < a0 → (True)) ∧ (¬ 2 < a0 → ((a1 < 1 → (True)) ∧ (¬ a1 < 1 → ((a1 ≤ 100 → ((PX6_look a0 a1 h) ∧ (True))) ∧ (¬ a1 ≤ 100 → (True))))))))
set_option maxRecDepth 100000 in
set_option maxHeartbeats 4000000 in
theorem tX11_find {X : fj_X} {Y : fj_Y} {l0 : Launch} {ad : Nat → Nat} {n : Nat} {S : ph_S} {pr : Nat} (W : WS pr n S) (C : FC X Y l0 cX11_find 3 RX11 ({ frames := 7, cells := 0, slots := 0, locals := 164 } : Room) 0 0 (some .int)) (a0 : Int32) (a1 : Int32) (h : ph_H) (hP : PX11_find a0 a1 h) (hR : ∀ S', Sp S S' → RETi X Y ad n S' cX11_find (FX11_find a0 a1 h)) : FJ X Y ad n S h 0 [(0, .ref (ad 0)), (1, .int a0), (2, .int a1)] [] := by
  unfold PX11_find at hP
  unfold FX11_find at hR
  refine j_iload_n C dX11_find_0 rfl rfl ?_
  refine j_if_lt (tgt := 20) C dX11_find_1 (by decide) (fun c0 => ?_) (fun c0 => ?_)
  · have hP := hP.1 c0
    rw [if_pos c0] at hR
    refine j_iconst (v := (-1)) C dX11_find_20 (by decide) ?_
    exact RETi_u (hR _ (Or.inl rfl)) _ _ dX11_find_21
  · have hP := hP.2 c0
    rw [if_neg c0] at hR
    refine j_iload_n C dX11_find_4 rfl rfl ?_
    refine j_iconst (v := 2) C dX11_find_5 (by decide) ?_
    refine j_icmp_gt (tgt := 20) C dX11_find_6 (by decide) (fun c1 => ?_) (fun c1 => ?_)
    · have hP := hP.1 c1
      rw [if_pos c1] at hR
      refine j_iconst (v := (-1)) C dX11_find_20 (by decide) ?_
      exact RETi_u (hR _ (Or.inl rfl)) _ _ dX11_find_21
    · have hP := hP.2 c1
      rw [if_neg c1] at hR
      refine j_iload_n C dX11_find_9 rfl rfl ?_
      refine j_iconst (v := 1) C dX11_find_10 (by decide) ?_
      refine j_icmp_lt (tgt := 20) C dX11_find_11 (by decide) (fun c2 => ?_) (fun c2 => ?_)
      · have hP := hP.1 c2
        rw [if_pos c2] at hR
        refine j_iconst (v := (-1)) C dX11_find_20 (by decide) ?_
        exact RETi_u (hR _ (Or.inl rfl)) _ _ dX11_find_21
      · have hP := hP.2 c2
        rw [if_neg c2] at hR
        refine j_iload_n C dX11_find_14 rfl rfl ?_
        refine j_bipush (v := 100) C dX11_find_15 (by decide) ?_
        refine j_icmp_le (tgt := 22) C dX11_find_17 (by decide) (fun c3 => ?_) (fun c3 => ?_)
        · have hP := hP.1 c3
          rw [if_pos c3] at hR
          refine j_aload_n C dX11_find_22 rfl rfl ?_
          refine gCRX11_52 C dX11_find_23 (W.lt 0 (by decide)) (sh_0 W) rfl ?_
          refine j_iload_n C dX11_find_26 rfl rfl ?_
          refine j_iload_n C dX11_find_27 rfl rfl ?_
          obtain ⟨p4, hP⟩ := hP
          refine j_callV C (MX6_look W a0 a1 h p4) dX11_find_28 (CKX6_look (by decide)) ⟨rfl, rfl⟩ lk_RX11_277 in_X6_look se_X6_look (W.lt 52 (by decide)) (sh_52 W) rfl rfl (Nat.le_of_ble_eq_true rfl) ?_
          intro r S' h' hq
          obtain ⟨e1, e2, e3⟩ := hq
          rw [e1, e2, e3]
          have W := spr_W (p := 1) W
          exact RETi_u (hR _ (Or.inr (Or.inl rfl))) _ _ dX11_find_31
        · have hP := hP.2 c3
          rw [if_neg c3] at hR
          refine j_iconst (v := (-1)) C dX11_find_20 (by decide) ?_
          exact RETi_u (hR _ (Or.inl rfl)) _ _ dX11_find_21
theorem MX11_find {l0 : Launch} {Y : fj_Y} {ad : Nat → Nat} {n : Nat} {S : ph_S} {pr : Nat} (W : WS pr n S) (a0 : Int32) (a1 : Int32) (h : ph_H) (hP : PX11_find a0 a1 h) : MI l0 yX11_find cX11_find 3 (some .int) ({ frames := 7, cells := 0, slots := 0, locals := 164 } : Room) Y ad n S h [.ref (ad 0), .int a0, .int a1] (fun r S' h' => Sp S S' ∧ h' = (FX11_find a0 a1 h).2 ∧ r = (FX11_find a0 a1 h).1) := met_i (by decide) (Nat.le_of_ble_eq_true rfl) (fun _ _ _ _ => rfl) (fun X C K => j_vl (tX11_find W C a0 a1 h hP (fun S' hs' => fun pc lv hd => K _ _ _ ⟨hs', rfl, rfl⟩ pc lv hd)) ⟨rfl, rfl, rfl, trivial⟩)

-- X11_found
def FX11_found (a0 : Int32) (h : ph_H) : Int32 := if a0 < 0 then ((-1)) else (if a0 ≤ 6 then (if a0 = 6 then ((h 52 9)) else (if (h 52 10) = 0 then ((-2)) else (if a0 = 0 then ((h 52 6)) else (if a0 = 5 then ((h 52 8)) else (if ((a0 - 1) / 2) < (h 52 6) then (if (a0 - a0 / 2 * 2) = 1 then ((h 54 (((a0 - 1) / 2).toNatClampNeg))) else ((h 55 (((a0 - 1) / 2).toNatClampNeg)))) else ((-2))))))) else ((-1)))
def PX11_found (a0 : Int32) (h : ph_H) : Prop := (a0 < 0 → (True)) ∧ (¬ a0 < 0 → ((a0 ≤ 6 → ((a0 = 6 → (True)) ∧ (¬ a0 = 6 → (((h 52 10) = 0 → (True)) ∧ (¬ (h 52 10) = 0 → ((a0 = 0 → (True)) ∧ (¬ a0 = 0 → ((a0 = 5 → (True)) ∧ (¬ a0 = 5 → ((((a0 - 1) / 2) < (h 52 6) → (((a0 - a0 / 2 * 2) = 1 → (vp_in ((a0 - 1) / 2) 2 ∧ (True))) ∧ (¬ (a0 - a0 / 2 * 2) = 1 → (vp_in ((a0 - 1) / 2) 2 ∧ (True))))) ∧ (¬ ((a0 - 1) / 2) < (h 52 6) → (True)))))))))))) ∧ (¬ a0 ≤ 6 → (True))))
set_option maxRecDepth 100000 in
set_option maxHeartbeats 4000000 in
theorem tX11_found {X : fj_X} {Y : fj_Y} {l0 : Launch} {ad : Nat → Nat} {n : Nat} {S : ph_S} {pr : Nat} (W : WS pr n S) (C : FC X Y l0 cX11_found 3 RX11 ({ frames := 0, cells := 0, slots := 0, locals := 0 } : Room) 0 0 (some .int)) (a0 : Int32) (h : ph_H) (hP : PX11_found a0 h) (hR : RETp X Y ad n S h cX11_found (FX11_found a0 h)) : FJ X Y ad n S h 0 [(0, .ref (ad 0)), (1, .int a0)] [] := by
  unfold PX11_found at hP
  unfold FX11_found at hR
  refine j_iload_n C dX11_found_0 rfl rfl ?_
  refine j_if_lt (tgt := 10) C dX11_found_1 (by decide) (fun c0 => ?_) (fun c0 => ?_)
  · have hP := hP.1 c0
    rw [if_pos c0] at hR
    refine j_iconst (v := (-1)) C dX11_found_10 (by decide) ?_
    exact hR _ _ dX11_found_11
  · have hP := hP.2 c0
    rw [if_neg c0] at hR
    refine j_iload_n C dX11_found_4 rfl rfl ?_
    refine j_bipush (v := 6) C dX11_found_5 (by decide) ?_
    refine j_icmp_le (tgt := 12) C dX11_found_7 (by decide) (fun c1 => ?_) (fun c1 => ?_)
    · have hP := hP.1 c1
      rw [if_pos c1] at hR
      refine j_iload_n C dX11_found_12 rfl rfl ?_
      refine j_bipush (v := 6) C dX11_found_13 (by decide) ?_
      refine j_icmp_ne (tgt := 26) C dX11_found_15 (by decide) (fun c2 => ?_) (fun c2 => ?_)
      · have hP := hP.2 c2
        rw [if_neg c2] at hR
        refine j_aload_n C dX11_found_26 rfl rfl ?_
        refine gCRX11_52 C dX11_found_27 (W.lt 0 (by decide)) (sh_0 W) rfl ?_
        refine gCRX11_283 (v := (h 52 10)) C dX11_found_30 (W.lt 52 (by decide)) (sh_52 W) rfl rfl ?_
        refine j_if_ne (tgt := 39) C dX11_found_33 (by decide) (fun c3 => ?_) (fun c3 => ?_)
        · have hP := hP.2 c3
          rw [if_neg c3] at hR
          refine j_iload_n C dX11_found_39 rfl rfl ?_
          refine j_if_ne (tgt := 51) C dX11_found_40 (by decide) (fun c4 => ?_) (fun c4 => ?_)
          · have hP := hP.2 c4
            rw [if_neg c4] at hR
            refine j_iload_n C dX11_found_51 rfl rfl ?_
            refine j_iconst (v := 5) C dX11_found_52 (by decide) ?_
            refine j_icmp_ne (tgt := 64) C dX11_found_53 (by decide) (fun c5 => ?_) (fun c5 => ?_)
            · have hP := hP.2 c5
              rw [if_neg c5] at hR
              refine j_iload_n C dX11_found_64 rfl rfl ?_
              refine j_iconst (v := 1) C dX11_found_65 (by decide) ?_
              refine j_isub C dX11_found_66 ?_
              refine j_iconst (v := 2) C dX11_found_67 (by decide) ?_
              refine j_idiv C dX11_found_68 (by decide) ?_
              refine j_istore_n C dX11_found_69 rfl (by decide) rfl ?_
              refine j_iload_n C dX11_found_70 rfl rfl ?_
              refine j_aload_n C dX11_found_71 rfl rfl ?_
              refine gCRX11_52 C dX11_found_72 (W.lt 0 (by decide)) (sh_0 W) rfl ?_
              refine gCRX11_286 (v := (h 52 6)) C dX11_found_75 (W.lt 52 (by decide)) (sh_52 W) rfl rfl ?_
              refine j_icmp_lt (tgt := 84) C dX11_found_78 (by decide) (fun c6 => ?_) (fun c6 => ?_)
              · have hP := hP.1 c6
                rw [if_pos c6] at hR
                refine j_iload_n C dX11_found_84 rfl rfl ?_
                refine j_iconst (v := 2) C dX11_found_85 (by decide) ?_
                refine j_irem C dX11_found_86 (by decide) ?_
                refine j_iconst (v := 1) C dX11_found_87 (by decide) ?_
                refine j_icmp_ne (tgt := 103) C dX11_found_88 (by decide) (fun c7 => ?_) (fun c7 => ?_)
                · have hP := hP.2 c7
                  rw [if_neg c7] at hR
                  refine j_aload_n C dX11_found_103 rfl rfl ?_
                  refine gCRX11_52 C dX11_found_104 (W.lt 0 (by decide)) (sh_0 W) rfl ?_
                  refine gCRX11_289 C dX11_found_107 (W.lt 52 (by decide)) (sh_52 W) rfl ?_
                  refine j_iload_n C dX11_found_110 rfl rfl ?_
                  obtain ⟨p4, hP⟩ := hP
                  refine j_iald (k := 55) (v := (h 55 (((a0 - 1) / 2).toNatClampNeg))) C dX11_found_111 (W.lt 55 (by decide)) (sh_55 W) p4 rfl ?_
                  exact hR _ _ dX11_found_112
                · have hP := hP.1 c7
                  rw [if_pos c7] at hR
                  refine j_aload_n C dX11_found_91 rfl rfl ?_
                  refine gCRX11_52 C dX11_found_92 (W.lt 0 (by decide)) (sh_0 W) rfl ?_
                  refine gCRX11_288 C dX11_found_95 (W.lt 52 (by decide)) (sh_52 W) rfl ?_
                  refine j_iload_n C dX11_found_98 rfl rfl ?_
                  obtain ⟨p4, hP⟩ := hP
                  refine j_iald (k := 54) (v := (h 54 (((a0 - 1) / 2).toNatClampNeg))) C dX11_found_99 (W.lt 54 (by decide)) (sh_54 W) p4 rfl ?_
                  refine j_goto (tgt := 112) C dX11_found_100 (by decide) ?_
                  exact hR _ _ dX11_found_112
              · have hP := hP.2 c6
                rw [if_neg c6] at hR
                refine j_bipush (v := (-2)) C dX11_found_81 (by decide) ?_
                exact hR _ _ dX11_found_83
            · have hP := hP.1 c5
              rw [if_pos c5] at hR
              refine j_aload_n C dX11_found_56 rfl rfl ?_
              refine gCRX11_52 C dX11_found_57 (W.lt 0 (by decide)) (sh_0 W) rfl ?_
              refine gCRX11_287 (v := (h 52 8)) C dX11_found_60 (W.lt 52 (by decide)) (sh_52 W) rfl rfl ?_
              exact hR _ _ dX11_found_63
          · have hP := hP.1 c4
            rw [if_pos c4] at hR
            refine j_aload_n C dX11_found_43 rfl rfl ?_
            refine gCRX11_52 C dX11_found_44 (W.lt 0 (by decide)) (sh_0 W) rfl ?_
            refine gCRX11_286 (v := (h 52 6)) C dX11_found_47 (W.lt 52 (by decide)) (sh_52 W) rfl rfl ?_
            exact hR _ _ dX11_found_50
        · have hP := hP.1 c3
          rw [if_pos c3] at hR
          refine j_bipush (v := (-2)) C dX11_found_36 (by decide) ?_
          exact hR _ _ dX11_found_38
      · have hP := hP.1 c2
        rw [if_pos c2] at hR
        refine j_aload_n C dX11_found_18 rfl rfl ?_
        refine gCRX11_52 C dX11_found_19 (W.lt 0 (by decide)) (sh_0 W) rfl ?_
        refine gCRX11_280 (v := (h 52 9)) C dX11_found_22 (W.lt 52 (by decide)) (sh_52 W) rfl rfl ?_
        exact hR _ _ dX11_found_25
    · have hP := hP.2 c1
      rw [if_neg c1] at hR
      refine j_iconst (v := (-1)) C dX11_found_10 (by decide) ?_
      exact hR _ _ dX11_found_11
theorem MX11_found {l0 : Launch} {Y : fj_Y} {ad : Nat → Nat} {n : Nat} {S : ph_S} {pr : Nat} (W : WS pr n S) (a0 : Int32) (h : ph_H) (hP : PX11_found a0 h) : MI l0 yX11_found cX11_found 3 (some .int) ({ frames := 0, cells := 0, slots := 0, locals := 0 } : Room) Y ad n S h [.ref (ad 0), .int a0] (fun r S' h' => S' = S ∧ h' = h ∧ r = FX11_found a0 h) := met_i (by decide) (Nat.le_of_ble_eq_true rfl) (fun _ _ _ _ => rfl) (fun X C K => j_vl (tX11_found W C a0 h hP (fun pc lv hd => K _ _ _ ⟨rfl, rfl, rfl⟩ pc lv hd)) ⟨rfl, rfl, trivial⟩)

-- X11_isShelf
def FX11_isShelf (a0 : Int32) : Int32 := if a0 < 0 then (0) else (if 8 ≤ a0 then (0) else (1))
def PX11_isShelf (a0 : Int32) : Prop := (a0 < 0 → (True)) ∧ (¬ a0 < 0 → ((8 ≤ a0 → (True)) ∧ (¬ 8 ≤ a0 → (True))))
set_option maxRecDepth 100000 in
set_option maxHeartbeats 4000000 in
theorem tX11_isShelf {X : fj_X} {Y : fj_Y} {l0 : Launch} {ad : Nat → Nat} {n : Nat} {S : ph_S} {pr : Nat} (W : WS pr n S) (C : FC X Y l0 cX11_isShelf 1 RX11 ({ frames := 0, cells := 0, slots := 0, locals := 0 } : Room) 0 0 (some .boolean)) (a0 : Int32) (h : ph_H) (hP : PX11_isShelf a0) (hR : RETq X Y ad n S h cX11_isShelf (FX11_isShelf a0)) : FJ X Y ad n S h 0 [(0, .int a0)] [] := by
  unfold PX11_isShelf at hP
  unfold FX11_isShelf at hR
  refine j_iload_n C dX11_isShelf_0 rfl rfl ?_
  refine j_if_lt (tgt := 14) C dX11_isShelf_1 (by decide) (fun c0 => ?_) (fun c0 => ?_)
  · have hP := hP.1 c0
    rw [if_pos c0] at hR
    refine j_iconst (v := 0) C dX11_isShelf_14 (by decide) ?_
    exact hR bo_0 _ _ dX11_isShelf_15
  · have hP := hP.2 c0
    rw [if_neg c0] at hR
    refine j_iload_n C dX11_isShelf_4 rfl rfl ?_
    refine j_bipush (v := 8) C dX11_isShelf_5 (by decide) ?_
    refine j_icmp_ge (tgt := 14) C dX11_isShelf_7 (by decide) (fun c1 => ?_) (fun c1 => ?_)
    · have hP := hP.1 c1
      rw [if_pos c1] at hR
      refine j_iconst (v := 0) C dX11_isShelf_14 (by decide) ?_
      exact hR bo_0 _ _ dX11_isShelf_15
    · have hP := hP.2 c1
      rw [if_neg c1] at hR
      refine j_iconst (v := 1) C dX11_isShelf_10 (by decide) ?_
      refine j_goto (tgt := 15) C dX11_isShelf_11 (by decide) ?_
      exact hR bo_1 _ _ dX11_isShelf_15
theorem MX11_isShelf {l0 : Launch} {Y : fj_Y} {ad : Nat → Nat} {n : Nat} {S : ph_S} {pr : Nat} (W : WS pr n S) (a0 : Int32) (h : ph_H) (hP : PX11_isShelf a0) : MI l0 yX11_isShelf cX11_isShelf 1 (some .boolean) ({ frames := 0, cells := 0, slots := 0, locals := 0 } : Room) Y ad n S h [.int a0] (fun r S' h' => S' = S ∧ h' = h ∧ r = FX11_isShelf a0 ∧ bo r) := met_i (by decide) (Nat.le_of_ble_eq_true rfl) (fun _ _ _ q => bo_n q.2.2.2) (fun X C K => j_vl (tX11_isShelf W C a0 h hP (fun b pc lv hd => K _ _ _ ⟨rfl, rfl, rfl, b⟩ pc lv hd)) ⟨rfl, trivial⟩)

-- X11_cellSlot
def FX11_cellSlot (a0 : Int32) : Int32 := if (FX11_isCell a0) = 0 then ((-1)) else (a0)
def PX11_cellSlot (a0 : Int32) : Prop := (PX11_isCell a0) ∧ (((FX11_isCell a0) = 0 → (True)) ∧ (¬ (FX11_isCell a0) = 0 → (True)))
set_option maxRecDepth 100000 in
set_option maxHeartbeats 4000000 in
theorem tX11_cellSlot {X : fj_X} {Y : fj_Y} {l0 : Launch} {ad : Nat → Nat} {n : Nat} {S : ph_S} {pr : Nat} (W : WS pr n S) (C : FC X Y l0 cX11_cellSlot 1 RX11 ({ frames := 1, cells := 0, slots := 0, locals := 20 } : Room) 0 0 (some .int)) (a0 : Int32) (h : ph_H) (hP : PX11_cellSlot a0) (hR : RETp X Y ad n S h cX11_cellSlot (FX11_cellSlot a0)) : FJ X Y ad n S h 0 [(0, .int a0)] [] := by
  unfold PX11_cellSlot at hP
  unfold FX11_cellSlot at hR
  refine j_iload_n C dX11_cellSlot_0 rfl rfl ?_
  obtain ⟨p1, hP⟩ := hP
  refine j_callS C (MX11_isCell W a0 h p1) dX11_cellSlot_1 (CKX11_isCell (by decide)) ⟨rfl, rfl⟩ lk_RX11_81 st_X11_isCell rfl (Nat.le_of_ble_eq_true rfl) ?_
  intro r S' h' hq
  obtain ⟨e1, hh, e3, hb3⟩ := hq
  rw [e1, hh, e3]
  refine j_if_eq (tgt := 11) C dX11_cellSlot_4 (by decide) (fun c0 => ?_) (fun c0 => ?_)
  · have hP := hP.1 c0
    rw [if_pos c0] at hR
    refine j_iconst (v := (-1)) C dX11_cellSlot_11 (by decide) ?_
    exact hR _ _ dX11_cellSlot_12
  · have hP := hP.2 c0
    rw [if_neg c0] at hR
    refine j_iload_n C dX11_cellSlot_7 rfl rfl ?_
    refine j_goto (tgt := 12) C dX11_cellSlot_8 (by decide) ?_
    exact hR _ _ dX11_cellSlot_12
theorem MX11_cellSlot {l0 : Launch} {Y : fj_Y} {ad : Nat → Nat} {n : Nat} {S : ph_S} {pr : Nat} (W : WS pr n S) (a0 : Int32) (h : ph_H) (hP : PX11_cellSlot a0) : MI l0 yX11_cellSlot cX11_cellSlot 1 (some .int) ({ frames := 1, cells := 0, slots := 0, locals := 20 } : Room) Y ad n S h [.int a0] (fun r S' h' => S' = S ∧ h' = h ∧ r = FX11_cellSlot a0) := met_i (by decide) (Nat.le_of_ble_eq_true rfl) (fun _ _ _ _ => rfl) (fun X C K => j_vl (tX11_cellSlot W C a0 h hP (fun pc lv hd => K _ _ _ ⟨rfl, rfl, rfl⟩ pc lv hd)) ⟨rfl, trivial⟩)

-- X11_localSlot
def FX11_localSlot (a0 : Int32) (a1 : Int32) : Int32 := if (FX11_isThread a0) = 0 then ((-1)) else (if a1 < 0 then ((-1)) else (if a1 < 4 then (((12 + (a0 * 4)) + a1)) else ((-1))))
def PX11_localSlot (a0 : Int32) (a1 : Int32) : Prop := (PX11_isThread a0) ∧ (((FX11_isThread a0) = 0 → (True)) ∧ (¬ (FX11_isThread a0) = 0 → ((a1 < 0 → (True)) ∧ (¬ a1 < 0 → ((a1 < 4 → (True)) ∧ (¬ a1 < 4 → (True)))))))
set_option maxRecDepth 100000 in
set_option maxHeartbeats 4000000 in
theorem tX11_localSlot {X : fj_X} {Y : fj_Y} {l0 : Launch} {ad : Nat → Nat} {n : Nat} {S : ph_S} {pr : Nat} (W : WS pr n S) (C : FC X Y l0 cX11_localSlot 2 RX11 ({ frames := 1, cells := 0, slots := 0, locals := 20 } : Room) 0 0 (some .int)) (a0 : Int32) (a1 : Int32) (h : ph_H) (hP : PX11_localSlot a0 a1) (hR : RETp X Y ad n S h cX11_localSlot (FX11_localSlot a0 a1)) : FJ X Y ad n S h 0 [(0, .int a0), (1, .int a1)] [] := by
  unfold PX11_localSlot at hP
  unfold FX11_localSlot at hR
  refine j_iload_n C dX11_localSlot_0 rfl rfl ?_
  obtain ⟨p1, hP⟩ := hP
  refine j_callS C (MX11_isThread W a0 h p1) dX11_localSlot_1 (CKX11_isThread (by decide)) ⟨rfl, rfl⟩ lk_RX11_66 st_X11_isThread rfl (Nat.le_of_ble_eq_true rfl) ?_
  intro r S' h' hq
  obtain ⟨e1, hh, e3, hb3⟩ := hq
  rw [e1, hh, e3]
  refine j_if_eq (tgt := 16) C dX11_localSlot_4 (by decide) (fun c0 => ?_) (fun c0 => ?_)
  · have hP := hP.1 c0
    rw [if_pos c0] at hR
    refine j_iconst (v := (-1)) C dX11_localSlot_16 (by decide) ?_
    exact hR _ _ dX11_localSlot_17
  · have hP := hP.2 c0
    rw [if_neg c0] at hR
    refine j_iload_n C dX11_localSlot_7 rfl rfl ?_
    refine j_if_lt (tgt := 16) C dX11_localSlot_8 (by decide) (fun c1 => ?_) (fun c1 => ?_)
    · have hP := hP.1 c1
      rw [if_pos c1] at hR
      refine j_iconst (v := (-1)) C dX11_localSlot_16 (by decide) ?_
      exact hR _ _ dX11_localSlot_17
    · have hP := hP.2 c1
      rw [if_neg c1] at hR
      refine j_iload_n C dX11_localSlot_11 rfl rfl ?_
      refine j_iconst (v := 4) C dX11_localSlot_12 (by decide) ?_
      refine j_icmp_lt (tgt := 18) C dX11_localSlot_13 (by decide) (fun c2 => ?_) (fun c2 => ?_)
      · have hP := hP.1 c2
        rw [if_pos c2] at hR
        refine j_bipush (v := 12) C dX11_localSlot_18 (by decide) ?_
        refine j_iload_n C dX11_localSlot_20 rfl rfl ?_
        refine j_iconst (v := 4) C dX11_localSlot_21 (by decide) ?_
        refine j_imul C dX11_localSlot_22 ?_
        refine j_iadd C dX11_localSlot_23 ?_
        refine j_iload_n C dX11_localSlot_24 rfl rfl ?_
        refine j_iadd C dX11_localSlot_25 ?_
        exact hR _ _ dX11_localSlot_26
      · have hP := hP.2 c2
        rw [if_neg c2] at hR
        refine j_iconst (v := (-1)) C dX11_localSlot_16 (by decide) ?_
        exact hR _ _ dX11_localSlot_17
theorem MX11_localSlot {l0 : Launch} {Y : fj_Y} {ad : Nat → Nat} {n : Nat} {S : ph_S} {pr : Nat} (W : WS pr n S) (a0 : Int32) (a1 : Int32) (h : ph_H) (hP : PX11_localSlot a0 a1) : MI l0 yX11_localSlot cX11_localSlot 2 (some .int) ({ frames := 1, cells := 0, slots := 0, locals := 20 } : Room) Y ad n S h [.int a0, .int a1] (fun r S' h' => S' = S ∧ h' = h ∧ r = FX11_localSlot a0 a1) := met_i (by decide) (Nat.le_of_ble_eq_true rfl) (fun _ _ _ _ => rfl) (fun X C K => j_vl (tX11_localSlot W C a0 a1 h hP (fun pc lv hd => K _ _ _ ⟨rfl, rfl, rfl⟩ pc lv hd)) ⟨rfl, rfl, trivial⟩)

-- X11_fits
def FX11_fits (a0 : Int32) (a1 : Int32) (a2 : Int32) : Int32 := if a1 < 0 then (0) else (if a0 < 0 then (0) else (if a2 < a1 then (0) else (if (a2 - a1) < a0 then (0) else (1))))
def PX11_fits (a0 : Int32) (a1 : Int32) (a2 : Int32) : Prop := (a1 < 0 → (True)) ∧ (¬ a1 < 0 → ((a0 < 0 → (True)) ∧ (¬ a0 < 0 → ((a2 < a1 → (True)) ∧ (¬ a2 < a1 → (((a2 - a1) < a0 → (True)) ∧ (¬ (a2 - a1) < a0 → (True))))))))
set_option maxRecDepth 100000 in
set_option maxHeartbeats 4000000 in
theorem tX11_fits {X : fj_X} {Y : fj_Y} {l0 : Launch} {ad : Nat → Nat} {n : Nat} {S : ph_S} {pr : Nat} (W : WS pr n S) (C : FC X Y l0 cX11_fits 3 RX11 ({ frames := 0, cells := 0, slots := 0, locals := 0 } : Room) 0 0 (some .boolean)) (a0 : Int32) (a1 : Int32) (a2 : Int32) (h : ph_H) (hP : PX11_fits a0 a1 a2) (hR : RETq X Y ad n S h cX11_fits (FX11_fits a0 a1 a2)) : FJ X Y ad n S h 0 [(0, .int a0), (1, .int a1), (2, .int a2)] [] := by
  unfold PX11_fits at hP
  unfold FX11_fits at hR
  refine j_iload_n C dX11_fits_0 rfl rfl ?_
  refine j_if_lt (tgt := 24) C dX11_fits_1 (by decide) (fun c0 => ?_) (fun c0 => ?_)
  · have hP := hP.1 c0
    rw [if_pos c0] at hR
    refine j_iconst (v := 0) C dX11_fits_24 (by decide) ?_
    exact hR bo_0 _ _ dX11_fits_25
  · have hP := hP.2 c0
    rw [if_neg c0] at hR
    refine j_iload_n C dX11_fits_4 rfl rfl ?_
    refine j_if_lt (tgt := 24) C dX11_fits_5 (by decide) (fun c1 => ?_) (fun c1 => ?_)
    · have hP := hP.1 c1
      rw [if_pos c1] at hR
      refine j_iconst (v := 0) C dX11_fits_24 (by decide) ?_
      exact hR bo_0 _ _ dX11_fits_25
    · have hP := hP.2 c1
      rw [if_neg c1] at hR
      refine j_iload_n C dX11_fits_8 rfl rfl ?_
      refine j_iload_n C dX11_fits_9 rfl rfl ?_
      refine j_icmp_gt (tgt := 24) C dX11_fits_10 (by decide) (fun c2 => ?_) (fun c2 => ?_)
      · have hP := hP.1 c2
        rw [if_pos c2] at hR
        refine j_iconst (v := 0) C dX11_fits_24 (by decide) ?_
        exact hR bo_0 _ _ dX11_fits_25
      · have hP := hP.2 c2
        rw [if_neg c2] at hR
        refine j_iload_n C dX11_fits_13 rfl rfl ?_
        refine j_iload_n C dX11_fits_14 rfl rfl ?_
        refine j_iload_n C dX11_fits_15 rfl rfl ?_
        refine j_isub C dX11_fits_16 ?_
        refine j_icmp_gt (tgt := 24) C dX11_fits_17 (by decide) (fun c3 => ?_) (fun c3 => ?_)
        · have hP := hP.1 c3
          rw [if_pos c3] at hR
          refine j_iconst (v := 0) C dX11_fits_24 (by decide) ?_
          exact hR bo_0 _ _ dX11_fits_25
        · have hP := hP.2 c3
          rw [if_neg c3] at hR
          refine j_iconst (v := 1) C dX11_fits_20 (by decide) ?_
          refine j_goto (tgt := 25) C dX11_fits_21 (by decide) ?_
          exact hR bo_1 _ _ dX11_fits_25
theorem MX11_fits {l0 : Launch} {Y : fj_Y} {ad : Nat → Nat} {n : Nat} {S : ph_S} {pr : Nat} (W : WS pr n S) (a0 : Int32) (a1 : Int32) (a2 : Int32) (h : ph_H) (hP : PX11_fits a0 a1 a2) : MI l0 yX11_fits cX11_fits 3 (some .boolean) ({ frames := 0, cells := 0, slots := 0, locals := 0 } : Room) Y ad n S h [.int a0, .int a1, .int a2] (fun r S' h' => S' = S ∧ h' = h ∧ r = FX11_fits a0 a1 a2 ∧ bo r) := met_i (by decide) (Nat.le_of_ble_eq_true rfl) (fun _ _ _ q => bo_n q.2.2.2) (fun X C K => j_vl (tX11_fits W C a0 a1 a2 h hP (fun b pc lv hd => K _ _ _ ⟨rfl, rfl, rfl, b⟩ pc lv hd)) ⟨rfl, rfl, rfl, trivial⟩)
