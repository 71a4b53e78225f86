-- X11_next
def FX11_next (a0 : Int32) (a1 : Int32) (h : ph_H) : Int32 := if (h 0 8) = 0 then ((-2)) else (if (FX11_isMoment a1 h) = 0 then ((-1)) else ((FX10_nextRead a0 a1 h)))
def PX11_next (a0 : Int32) (a1 : Int32) (h : ph_H) : Prop := ((h 0 8) = 0 → (True)) ∧ (¬ (h 0 8) = 0 → ((PX11_isMoment a1 h) ∧ (((FX11_isMoment a1 h) = 0 → (True)) ∧ (¬ (FX11_isMoment a1 h) = 0 → ((PX10_nextRead a0 a1 h) ∧ (True))))))
set_option maxRecDepth 100000 in
set_option maxHeartbeats 4000000 in
theorem tX11_next {X : fj_X} {Y : fj_Y} {l0 : Launch} {ad : Nat → Nat} {n : Nat} {S : ph_S} {pr : Nat} (W : WS pr n S) (C : FC X Y l0 cX11_next 3 RX11 ({ frames := 1, cells := 0, slots := 0, locals := 23 } : Room) 0 0 (some .int)) (a0 : Int32) (a1 : Int32) (h : ph_H) (hP : PX11_next a0 a1 h) (hR : RETp X Y ad n S h cX11_next (FX11_next a0 a1 h)) : FJ X Y ad n S h 0 [(0, .ref (ad 0)), (1, .int a0), (2, .int a1)] [] := by
  unfold PX11_next at hP
  unfold FX11_next at hR
  refine j_aload_n C dX11_next_0 rfl rfl ?_
  refine gCRX11_116 (v := (h 0 8)) C dX11_next_1 (W.lt 0 (by decide)) (sh_0 W) rfl rfl ?_
  refine j_if_ne (tgt := 10) C dX11_next_4 (by decide) (fun c0 => ?_) (fun c0 => ?_)
  · have hP := hP.2 c0
    rw [if_neg c0] at hR
    refine j_aload_n C dX11_next_10 rfl rfl ?_
    refine j_iload_n C dX11_next_11 rfl rfl ?_
    obtain ⟨p2, hP⟩ := hP
    refine j_callV C (MX11_isMoment W a1 h p2) dX11_next_12 (CKX11_isMoment (by decide)) ⟨rfl, rfl⟩ lk_RX11_179 in_X11_isMoment se_X11_isMoment (W.lt 0 (by decide)) (sh_0 W) rfl rfl (Nat.le_of_ble_eq_true rfl) ?_
    intro r S' h' hq
    obtain ⟨e1, hh, e3, hb4⟩ := hq
    rw [e1, hh, e3]
    refine j_if_ne (tgt := 20) C dX11_next_15 (by decide) (fun c1 => ?_) (fun c1 => ?_)
    · have hP := hP.2 c1
      rw [if_neg c1] at hR
      refine j_aload_n C dX11_next_20 rfl rfl ?_
      refine gCRX11_34 C dX11_next_21 (W.lt 0 (by decide)) (sh_0 W) rfl ?_
      refine j_iload_n C dX11_next_24 rfl rfl ?_
      refine j_iload_n C dX11_next_25 rfl rfl ?_
      obtain ⟨p4, hP⟩ := hP
      refine j_callV C (MX10_nextRead W a0 a1 h p4) dX11_next_26 (CKX10_nextRead (by decide)) ⟨rfl, rfl⟩ lk_RX11_240 in_X10_nextRead se_X10_nextRead (W.lt 35 (by decide)) (sh_35 W) rfl rfl (Nat.le_of_ble_eq_true rfl) ?_
      intro r S' h' hq
      obtain ⟨e1, hh, e3⟩ := hq
      rw [e1, hh, e3]
      exact hR _ _ dX11_next_29
    · have hP := hP.1 c1
      rw [if_pos c1] at hR
      refine j_iconst (v := (-1)) C dX11_next_18 (by decide) ?_
      exact hR _ _ dX11_next_19
  · have hP := hP.1 c0
    rw [if_pos c0] at hR
    refine j_bipush (v := (-2)) C dX11_next_7 (by decide) ?_
    exact hR _ _ dX11_next_9
theorem MX11_next {l0 : Launch} {Y : fj_Y} {ad : Nat → Nat} {n : Nat} {S : ph_S} {pr : Nat} (W : WS pr n S) (a0 : Int32) (a1 : Int32) (h : ph_H) (hP : PX11_next a0 a1 h) : MI l0 yX11_next cX11_next 3 (some .int) ({ frames := 1, cells := 0, slots := 0, locals := 23 } : Room) Y ad n S h [.ref (ad 0), .int a0, .int a1] (fun r S' h' => S' = S ∧ h' = h ∧ r = FX11_next a0 a1 h) := met_i (by decide) (Nat.le_of_ble_eq_true rfl) (fun _ _ _ _ => rfl) (fun X C K => j_vl (tX11_next W C a0 a1 h hP (fun pc lv hd => K _ _ _ ⟨rfl, rfl, rfl⟩ pc lv hd)) ⟨rfl, rfl, rfl, trivial⟩)

-- X10_holdsBehind
def FX10_holdsBehind (a0 : Int32) (a1 : Int32) (a2 : Int32) (a3 : Int32) (h : ph_H) : Int32 := if a0 = 0 then (a3) else (if (h 40 (a0.toNatClampNeg)) = a1 then (if (h 41 (a0.toNatClampNeg)) = 0 then (if (h 42 (a0.toNatClampNeg)) = a2 then (1) else (0)) else (0)) else (a3))
def PX10_holdsBehind (a0 : Int32) (a1 : Int32) (a2 : Int32) (a3 : Int32) (h : ph_H) : Prop := (a0 = 0 → (bo a3 ∧ (True))) ∧ (¬ a0 = 0 → (vp_in a0 301 ∧ (((h 40 (a0.toNatClampNeg)) = a1 → (vp_in a0 301 ∧ (((h 41 (a0.toNatClampNeg)) = 0 → (vp_in a0 301 ∧ (((h 42 (a0.toNatClampNeg)) = a2 → (True)) ∧ (¬ (h 42 (a0.toNatClampNeg)) = a2 → (True))))) ∧ (¬ (h 41 (a0.toNatClampNeg)) = 0 → (True))))) ∧ (¬ (h 40 (a0.toNatClampNeg)) = a1 → (bo a3 ∧ (True))))))
set_option maxRecDepth 100000 in
set_option maxHeartbeats 4000000 in
theorem tX10_holdsBehind {X : fj_X} {Y : fj_Y} {l0 : Launch} {ad : Nat → Nat} {n : Nat} {S : ph_S} {pr : Nat} (W : WS pr n S) (C : FC X Y l0 cX10_holdsBehind 5 RX10 ({ frames := 0, cells := 0, slots := 0, locals := 0 } : Room) 0 0 (some .boolean)) (a0 : Int32) (a1 : Int32) (a2 : Int32) (a3 : Int32) (h : ph_H) (hP : PX10_holdsBehind a0 a1 a2 a3 h) (hR : RETq X Y ad n S h cX10_holdsBehind (FX10_holdsBehind a0 a1 a2 a3 h)) : FJ X Y ad n S h 0 [(0, .ref (ad 35)), (1, .int a0), (2, .int a1), (3, .int a2), (4, .int a3)] [] := by
  unfold PX10_holdsBehind at hP
  unfold FX10_holdsBehind at hR
  refine j_iload_n C dX10_holdsBehind_0 rfl rfl ?_
  refine j_if_eq (tgt := 14) C dX10_holdsBehind_1 (by decide) (fun c0 => ?_) (fun c0 => ?_)
  · have hP := hP.1 c0
    rw [if_pos c0] at hR
    refine j_iload C dX10_holdsBehind_14 rfl ?_
    obtain ⟨p1, hP⟩ := hP
    exact hR p1 _ _ dX10_holdsBehind_16
  · have hP := hP.2 c0
    rw [if_neg c0] at hR
    refine j_aload_n C dX10_holdsBehind_4 rfl rfl ?_
    refine gCRX10_24 C dX10_holdsBehind_5 (W.lt 35 (by decide)) (sh_35 W) rfl ?_
    refine j_iload_n C dX10_holdsBehind_8 rfl rfl ?_
    obtain ⟨p3, hP⟩ := hP
    refine j_iald (k := 40) (v := (h 40 (a0.toNatClampNeg))) C dX10_holdsBehind_9 (W.lt 40 (by decide)) (sh_40 W) p3 rfl ?_
    refine j_iload_n C dX10_holdsBehind_10 rfl rfl ?_
    refine j_icmp_eq (tgt := 17) C dX10_holdsBehind_11 (by decide) (fun c1 => ?_) (fun c1 => ?_)
    · have hP := hP.1 c1
      rw [if_pos c1] at hR
      refine j_aload_n C dX10_holdsBehind_17 rfl rfl ?_
      refine gCRX10_27 C dX10_holdsBehind_18 (W.lt 35 (by decide)) (sh_35 W) rfl ?_
      refine j_iload_n C dX10_holdsBehind_21 rfl rfl ?_
      obtain ⟨p3, hP⟩ := hP
      refine j_iald (k := 41) (v := (h 41 (a0.toNatClampNeg))) C dX10_holdsBehind_22 (W.lt 41 (by decide)) (sh_41 W) p3 rfl ?_
      refine j_if_ne (tgt := 40) C dX10_holdsBehind_23 (by decide) (fun c2 => ?_) (fun c2 => ?_)
      · have hP := hP.2 c2
        rw [if_neg c2] at hR
        refine j_iconst (v := 0) C dX10_holdsBehind_40 (by decide) ?_
        exact hR bo_0 _ _ dX10_holdsBehind_41
      · have hP := hP.1 c2
        rw [if_pos c2] at hR
        refine j_aload_n C dX10_holdsBehind_26 rfl rfl ?_
        refine gCRX10_30 C dX10_holdsBehind_27 (W.lt 35 (by decide)) (sh_35 W) rfl ?_
        refine j_iload_n C dX10_holdsBehind_30 rfl rfl ?_
        obtain ⟨p3, hP⟩ := hP
        refine j_iald (k := 42) (v := (h 42 (a0.toNatClampNeg))) C dX10_holdsBehind_31 (W.lt 42 (by decide)) (sh_42 W) p3 rfl ?_
        refine j_iload_n C dX10_holdsBehind_32 rfl rfl ?_
        refine j_icmp_ne (tgt := 40) C dX10_holdsBehind_33 (by decide) (fun c3 => ?_) (fun c3 => ?_)
        · have hP := hP.2 c3
          rw [if_neg c3] at hR
          refine j_iconst (v := 0) C dX10_holdsBehind_40 (by decide) ?_
          exact hR bo_0 _ _ dX10_holdsBehind_41
        · have hP := hP.1 c3
          rw [if_pos c3] at hR
          refine j_iconst (v := 1) C dX10_holdsBehind_36 (by decide) ?_
          refine j_goto (tgt := 41) C dX10_holdsBehind_37 (by decide) ?_
          exact hR bo_1 _ _ dX10_holdsBehind_41
    · have hP := hP.2 c1
      rw [if_neg c1] at hR
      refine j_iload C dX10_holdsBehind_14 rfl ?_
      obtain ⟨p1, hP⟩ := hP
      exact hR p1 _ _ dX10_holdsBehind_16
theorem MX10_holdsBehind {l0 : Launch} {Y : fj_Y} {ad : Nat → Nat} {n : Nat} {S : ph_S} {pr : Nat} (W : WS pr n S) (a0 : Int32) (a1 : Int32) (a2 : Int32) (a3 : Int32) (h : ph_H) (hP : PX10_holdsBehind a0 a1 a2 a3 h) : MI l0 yX10_holdsBehind cX10_holdsBehind 5 (some .boolean) ({ frames := 0, cells := 0, slots := 0, locals := 0 } : Room) Y ad n S h [.ref (ad 35), .int a0, .int a1, .int a2, .int a3] (fun r S' h' => S' = S ∧ h' = h ∧ r = FX10_holdsBehind a0 a1 a2 a3 h ∧ bo r) := met_i (by decide) (Nat.le_of_ble_eq_true rfl) (fun _ _ _ q => bo_n q.2.2.2) (fun X C K => j_vl (tX10_holdsBehind W C a0 a1 a2 a3 h hP (fun b pc lv hd => K _ _ _ ⟨rfl, rfl, rfl, b⟩ pc lv hd)) ⟨rfl, rfl, rfl, rfl, rfl, trivial⟩)

-- X10_spanCount
def FX10_spanCount_55 (L21 : Int32 → Int32 → Int32 → Int32 → Int32 → Int32 → ph_H → Int32) (x1 : Int32) (x2 : Int32) (x4 : Int32) (x6 : Int32) (x7 : Int32) (h : ph_H) : Int32 := L21 x1 x2 x4 x6 x6 (x7 + 1) h
def PX10_spanCount_55 (LP21 : Int32 → Int32 → Int32 → Int32 → Int32 → Int32 → ph_H → Prop) (x1 : Int32) (x2 : Int32) (x4 : Int32) (x6 : Int32) (x7 : Int32) (h : ph_H) : Prop := LP21 x1 x2 x4 x6 x6 (x7 + 1) h
set_option maxRecDepth 100000 in
set_option maxHeartbeats 4000000 in
theorem tX10_spanCount_55 {X : fj_X} {Y : fj_Y} {l0 : Launch} {ad : Nat → Nat} {n : Nat} {S : ph_S} {pr : Nat} (W : WS pr n S) (C : FC X Y l0 cX10_spanCount 8 RX10 ({ frames := 1, cells := 0, slots := 0, locals := 24 } : Room) 0 0 (some .int)) (h : ph_H) (L21 : Int32 → Int32 → Int32 → Int32 → Int32 → Int32 → ph_H → Int32) (LP21 : Int32 → Int32 → Int32 → Int32 → Int32 → Int32 → ph_H → Prop) (hL21 : ∀ (x1 : Int32) (x2 : Int32) (x4 : Int32) (x5 : Int32) (x6 : Int32) (x7 : Int32), LP21 x1 x2 x4 x5 x6 x7 h → RETp X Y ad n S h cX10_spanCount (L21 x1 x2 x4 x5 x6 x7 h) → FJ X Y ad n S h 21 [(0, .ref (ad 35)), (1, .int x1), (2, .int x2), (4, .int x4), (5, .int x5), (6, .int x6), (7, .int x7)] []) (x1 : Int32) (x2 : Int32) (x4 : Int32) (x6 : Int32) (x7 : Int32) (hP : PX10_spanCount_55 LP21 x1 x2 x4 x6 x7 h) (hR : RETp X Y ad n S h cX10_spanCount (FX10_spanCount_55 L21 x1 x2 x4 x6 x7 h)) : FJ X Y ad n S h 55 [(0, .ref (ad 35)), (1, .int x1), (2, .int x2), (4, .int x4), (6, .int x6), (7, .int x7)] [] := by
  unfold PX10_spanCount_55 at hP
  unfold FX10_spanCount_55 at hR
  refine j_iload C dX10_spanCount_55 rfl ?_
  refine j_istore C dX10_spanCount_57 (by decide) rfl ?_
  refine j_iinc (v := (x7 + 1)) C dX10_spanCount_59 rfl rfl (by decide) rfl ?_
  refine j_goto (tgt := 21) C dX10_spanCount_62 (by decide) ?_
  exact j_vl (hL21 x1 x2 x4 x6 x6 (x7 + 1) hP hR) ⟨rfl, rfl, rfl, rfl, rfl, rfl, rfl, trivial⟩
def FX10_spanCount_21  : Nat → Int32 → Int32 → Int32 → Int32 → Int32 → Int32 → ph_H → Int32
  | 0, _, _, _, _, _, _, _ => 0
  | q + 1, x1, x2, x4, x5, x6, x7, h => if (h 35 11) < x7 then (x4) else (if (FX10_holdsBehind x7 x1 x2 x6 h) = 0 then (FX10_spanCount_55 (FX10_spanCount_21  q) x1 x2 x4 (FX10_holdsBehind x7 x1 x2 x6 h) x7 h) else (if x5 = 0 then (FX10_spanCount_55 (FX10_spanCount_21  q) x1 x2 (x4 + 1) (FX10_holdsBehind x7 x1 x2 x6 h) x7 h) else (FX10_spanCount_55 (FX10_spanCount_21  q) x1 x2 x4 (FX10_holdsBehind x7 x1 x2 x6 h) x7 h)))
def PX10_spanCount_21  : Nat → Int32 → Int32 → Int32 → Int32 → Int32 → Int32 → ph_H → Prop
  | 0, _, _, _, _, _, _, _ => False
  | q + 1, x1, x2, x4, x5, x6, x7, h => ((h 35 11) < x7 → (True)) ∧ (¬ (h 35 11) < x7 → ((PX10_holdsBehind x7 x1 x2 x6 h) ∧ (((FX10_holdsBehind x7 x1 x2 x6 h) = 0 → (PX10_spanCount_55 (PX10_spanCount_21  q) x1 x2 x4 (FX10_holdsBehind x7 x1 x2 x6 h) x7 h)) ∧ (¬ (FX10_holdsBehind x7 x1 x2 x6 h) = 0 → ((x5 = 0 → (PX10_spanCount_55 (PX10_spanCount_21  q) x1 x2 (x4 + 1) (FX10_holdsBehind x7 x1 x2 x6 h) x7 h)) ∧ (¬ x5 = 0 → (PX10_spanCount_55 (PX10_spanCount_21  q) x1 x2 x4 (FX10_holdsBehind x7 x1 x2 x6 h) x7 h)))))))
set_option maxRecDepth 100000 in
set_option maxHeartbeats 4000000 in
theorem tX10_spanCount_21 {X : fj_X} {Y : fj_Y} {l0 : Launch} {ad : Nat → Nat} {n : Nat} {S : ph_S} {pr : Nat} (W : WS pr n S) (C : FC X Y l0 cX10_spanCount 8 RX10 ({ frames := 1, cells := 0, slots := 0, locals := 24 } : Room) 0 0 (some .int)) (h : ph_H) : ∀ (q : Nat) (x1 : Int32) (x2 : Int32) (x4 : Int32) (x5 : Int32) (x6 : Int32) (x7 : Int32), PX10_spanCount_21  q x1 x2 x4 x5 x6 x7 h → RETp X Y ad n S h cX10_spanCount (FX10_spanCount_21  q x1 x2 x4 x5 x6 x7 h) → FJ X Y ad n S h 21 [(0, .ref (ad 35)), (1, .int x1), (2, .int x2), (4, .int x4), (5, .int x5), (6, .int x6), (7, .int x7)] [] := by
  intro q
  induction q with
  | zero =>
    intro x1 x2 x4 x5 x6 x7 hP hR
    exact absurd hP id
  | succ q ih =>
    intro x1 x2 x4 x5 x6 x7 hP hR
    unfold PX10_spanCount_21 at hP
    unfold FX10_spanCount_21 at hR
    refine j_iload C dX10_spanCount_21 rfl ?_
    refine j_aload_n C dX10_spanCount_23 rfl rfl ?_
    refine gCRX10_45 (v := (h 35 11)) C dX10_spanCount_24 (W.lt 35 (by decide)) (sh_35 W) rfl rfl ?_
    refine j_icmp_gt (tgt := 65) C dX10_spanCount_27 (by decide) (fun c0 => ?_) (fun c0 => ?_)
    · have hP := hP.1 c0
      rw [if_pos c0] at hR
      refine j_iload C dX10_spanCount_65 rfl ?_
      exact hR _ _ dX10_spanCount_67
    · have hP := hP.2 c0
      rw [if_neg c0] at hR
      refine j_aload_n C dX10_spanCount_30 rfl rfl ?_
      refine j_iload C dX10_spanCount_31 rfl ?_
      refine j_iload_n C dX10_spanCount_33 rfl rfl ?_
      refine j_iload_n C dX10_spanCount_34 rfl rfl ?_
      refine j_iload C dX10_spanCount_35 rfl ?_
      obtain ⟨p5, hP⟩ := hP
      refine j_callV C (MX10_holdsBehind W x7 x1 x2 x6 h p5) dX10_spanCount_37 (CKX10_holdsBehind (by decide)) ⟨rfl, rfl⟩ lk_RX10_147 in_X10_holdsBehind se_X10_holdsBehind (W.lt 35 (by decide)) (sh_35 W) rfl rfl (Nat.le_of_ble_eq_true rfl) ?_
      intro r S' h' hq
      obtain ⟨e1, hh, e3, hb7⟩ := hq
      rw [e1, hh, e3]
      refine j_istore C dX10_spanCount_40 (by decide) rfl ?_
      refine j_iload C dX10_spanCount_42 rfl ?_
      refine j_if_eq (tgt := 55) C dX10_spanCount_44 (by decide) (fun c1 => ?_) (fun c1 => ?_)
      · have hP := hP.1 c1
        rw [if_pos c1] at hR
        exact j_vl (tX10_spanCount_55 W C h (FX10_spanCount_21  q) (PX10_spanCount_21  q) (ih) x1 x2 x4 (FX10_holdsBehind x7 x1 x2 x6 h) x7 hP hR) ⟨rfl, rfl, rfl, rfl, rfl, rfl, trivial⟩
      · have hP := hP.2 c1
        rw [if_neg c1] at hR
        refine j_iload C dX10_spanCount_47 rfl ?_
        refine j_if_ne (tgt := 55) C dX10_spanCount_49 (by decide) (fun c2 => ?_) (fun c2 => ?_)
        · have hP := hP.2 c2
          rw [if_neg c2] at hR
          exact j_vl (tX10_spanCount_55 W C h (FX10_spanCount_21  q) (PX10_spanCount_21  q) (ih) x1 x2 x4 (FX10_holdsBehind x7 x1 x2 x6 h) x7 hP hR) ⟨rfl, rfl, rfl, rfl, rfl, rfl, trivial⟩
        · have hP := hP.1 c2
          rw [if_pos c2] at hR
          refine j_iinc (v := (x4 + 1)) C dX10_spanCount_52 rfl rfl (by decide) rfl ?_
          exact j_vl (tX10_spanCount_55 W C h (FX10_spanCount_21  q) (PX10_spanCount_21  q) (ih) x1 x2 (x4 + 1) (FX10_holdsBehind x7 x1 x2 x6 h) x7 hP hR) ⟨rfl, rfl, rfl, rfl, rfl, rfl, trivial⟩
def FX10_spanCount_16  (x1 : Int32) (x2 : Int32) (x4 : Int32) (x5 : Int32) (s0 : Int32) (h : ph_H) : Int32 := FX10_spanCount_21 2000 x1 x2 x4 x5 s0 0 h
def PX10_spanCount_16  (x1 : Int32) (x2 : Int32) (x4 : Int32) (x5 : Int32) (s0 : Int32) (h : ph_H) : Prop := PX10_spanCount_21 2000 x1 x2 x4 x5 s0 0 h
set_option maxRecDepth 100000 in
set_option maxHeartbeats 4000000 in
theorem tX10_spanCount_16 {X : fj_X} {Y : fj_Y} {l0 : Launch} {ad : Nat → Nat} {n : Nat} {S : ph_S} {pr : Nat} (W : WS pr n S) (C : FC X Y l0 cX10_spanCount 8 RX10 ({ frames := 1, cells := 0, slots := 0, locals := 24 } : Room) 0 0 (some .int)) (h : ph_H) (x1 : Int32) (x2 : Int32) (x4 : Int32) (x5 : Int32) (s0 : Int32) (hP : PX10_spanCount_16  x1 x2 x4 x5 s0 h) (hR : RETp X Y ad n S h cX10_spanCount (FX10_spanCount_16  x1 x2 x4 x5 s0 h)) : FJ X Y ad n S h 16 [(0, .ref (ad 35)), (1, .int x1), (2, .int x2), (4, .int x4), (5, .int x5)] [.int s0] := by
  unfold PX10_spanCount_16 at hP
  unfold FX10_spanCount_16 at hR
  refine j_istore C dX10_spanCount_16 (by decide) rfl ?_
  refine j_iconst (v := 0) C dX10_spanCount_18 (by decide) ?_
  refine j_istore C dX10_spanCount_19 (by decide) rfl ?_
  exact j_vl (tX10_spanCount_21 W C h 2000 x1 x2 x4 x5 s0 0 hP hR) ⟨rfl, rfl, rfl, rfl, rfl, rfl, rfl, trivial⟩
def FX10_spanCount (a0 : Int32) (a1 : Int32) (a2 : Int32) (h : ph_H) : Int32 := if a2 = a1 then (FX10_spanCount_16  a0 a1 0 0 1 h) else (FX10_spanCount_16  a0 a1 0 0 0 h)
def PX10_spanCount (a0 : Int32) (a1 : Int32) (a2 : Int32) (h : ph_H) : Prop := (a2 = a1 → (PX10_spanCount_16  a0 a1 0 0 1 h)) ∧ (¬ a2 = a1 → (PX10_spanCount_16  a0 a1 0 0 0 h))
set_option maxRecDepth 100000 in
set_option maxHeartbeats 4000000 in
theorem tX10_spanCount {X : fj_X} {Y : fj_Y} {l0 : Launch} {ad : Nat → Nat} {n : Nat} {S : ph_S} {pr : Nat} (W : WS pr n S) (C : FC X Y l0 cX10_spanCount 8 RX10 ({ frames := 1, cells := 0, slots := 0, locals := 24 } : Room) 0 0 (some .int)) (a0 : Int32) (a1 : Int32) (a2 : Int32) (h : ph_H) (hP : PX10_spanCount a0 a1 a2 h) (hR : RETp X Y ad n S h cX10_spanCount (FX10_spanCount a0 a1 a2 h)) : FJ X Y ad n S h 0 [(0, .ref (ad 35)), (1, .int a0), (2, .int a1), (3, .int a2)] [] := by
  unfold PX10_spanCount at hP
  unfold FX10_spanCount at hR
  refine j_iconst (v := 0) C dX10_spanCount_0 (by decide) ?_
  refine j_istore C dX10_spanCount_1 (by decide) rfl ?_
  refine j_iconst (v := 0) C dX10_spanCount_3 (by decide) ?_
  refine j_istore C dX10_spanCount_4 (by decide) rfl ?_
  refine j_iload_n C dX10_spanCount_6 rfl rfl ?_
  refine j_iload_n C dX10_spanCount_7 rfl rfl ?_
  refine j_icmp_ne (tgt := 15) C dX10_spanCount_8 (by decide) (fun c0 => ?_) (fun c0 => ?_)
  · have hP := hP.2 c0
    rw [if_neg c0] at hR
    refine j_iconst (v := 0) C dX10_spanCount_15 (by decide) ?_
    exact j_vl (tX10_spanCount_16 W C h a0 a1 0 0 0 hP hR) ⟨rfl, rfl, rfl, rfl, rfl, trivial⟩
  · have hP := hP.1 c0
    rw [if_pos c0] at hR
    refine j_iconst (v := 1) C dX10_spanCount_11 (by decide) ?_
    refine j_goto (tgt := 16) C dX10_spanCount_12 (by decide) ?_
    exact j_vl (tX10_spanCount_16 W C h a0 a1 0 0 1 hP hR) ⟨rfl, rfl, rfl, rfl, rfl, trivial⟩
theorem MX10_spanCount {l0 : Launch} {Y : fj_Y} {ad : Nat → Nat} {n : Nat} {S : ph_S} {pr : Nat} (W : WS pr n S) (a0 : Int32) (a1 : Int32) (a2 : Int32) (h : ph_H) (hP : PX10_spanCount a0 a1 a2 h) : MI l0 yX10_spanCount cX10_spanCount 8 (some .int) ({ frames := 1, cells := 0, slots := 0, locals := 24 } : Room) Y ad n S h [.ref (ad 35), .int a0, .int a1, .int a2] (fun r S' h' => S' = S ∧ h' = h ∧ r = FX10_spanCount a0 a1 a2 h) := met_i (by decide) (Nat.le_of_ble_eq_true rfl) (fun _ _ _ _ => rfl) (fun X C K => j_vl (tX10_spanCount W C a0 a1 a2 h hP (fun pc lv hd => K _ _ _ ⟨rfl, rfl, rfl⟩ pc lv hd)) ⟨rfl, rfl, rfl, rfl, trivial⟩)

-- X10_spanEdge
def FX10_spanEdge_92 (L21 : Int32 → Int32 → Int32 → Int32 → Int32 → Int32 → Int32 → Int32 → ph_H → Int32) (x1 : Int32) (x2 : Int32) (x4 : Int32) (x5 : Int32) (x6 : Int32) (x8 : Int32) (x9 : Int32) (h : ph_H) : Int32 := L21 x1 x2 x4 x5 x6 x8 x8 (x9 + 1) h
def PX10_spanEdge_92 (LP21 : Int32 → Int32 → Int32 → Int32 → Int32 → Int32 → Int32 → Int32 → ph_H → Prop) (x1 : Int32) (x2 : Int32) (x4 : Int32) (x5 : Int32) (x6 : Int32) (x8 : Int32) (x9 : Int32) (h : ph_H) : Prop := LP21 x1 x2 x4 x5 x6 x8 x8 (x9 + 1) h
set_option maxRecDepth 100000 in
set_option maxHeartbeats 4000000 in
theorem tX10_spanEdge_92 {X : fj_X} {Y : fj_Y} {l0 : Launch} {ad : Nat → Nat} {n : Nat} {S : ph_S} {pr : Nat} (W : WS pr n S) (C : FC X Y l0 cX10_spanEdge 10 RX10 ({ frames := 1, cells := 0, slots := 0, locals := 24 } : Room) 0 0 (some .int)) (h : ph_H) (L21 : Int32 → Int32 → Int32 → Int32 → Int32 → Int32 → Int32 → Int32 → ph_H → Int32) (LP21 : Int32 → Int32 → Int32 → Int32 → Int32 → Int32 → Int32 → Int32 → ph_H → Prop) (hL21 : ∀ (x1 : Int32) (x2 : Int32) (x4 : Int32) (x5 : Int32) (x6 : Int32) (x7 : Int32) (x8 : Int32) (x9 : Int32), LP21 x1 x2 x4 x5 x6 x7 x8 x9 h → RETp X Y ad n S h cX10_spanEdge (L21 x1 x2 x4 x5 x6 x7 x8 x9 h) → FJ X Y ad n S h 21 [(0, .ref (ad 35)), (1, .int x1), (2, .int x2), (4, .int x4), (5, .int x5), (6, .int x6), (7, .int x7), (8, .int x8), (9, .int x9)] []) (x1 : Int32) (x2 : Int32) (x4 : Int32) (x5 : Int32) (x6 : Int32) (x8 : Int32) (x9 : Int32) (hP : PX10_spanEdge_92 LP21 x1 x2 x4 x5 x6 x8 x9 h) (hR : RETp X Y ad n S h cX10_spanEdge (FX10_spanEdge_92 L21 x1 x2 x4 x5 x6 x8 x9 h)) : FJ X Y ad n S h 92 [(0, .ref (ad 35)), (1, .int x1), (2, .int x2), (4, .int x4), (5, .int x5), (6, .int x6), (8, .int x8), (9, .int x9)] [] := by
  unfold PX10_spanEdge_92 at hP
  unfold FX10_spanEdge_92 at hR
  refine j_iload C dX10_spanEdge_92 rfl ?_
  refine j_istore C dX10_spanEdge_94 (by decide) rfl ?_
  refine j_iinc (v := (x9 + 1)) C dX10_spanEdge_96 rfl rfl (by decide) rfl ?_
  refine j_goto (tgt := 21) C dX10_spanEdge_99 (by decide) ?_
  exact j_vl (hL21 x1 x2 x4 x5 x6 x8 x8 (x9 + 1) hP hR) ⟨rfl, rfl, rfl, rfl, rfl, rfl, rfl, rfl, rfl, trivial⟩
def FX10_spanEdge_70 (L21 : Int32 → Int32 → Int32 → Int32 → Int32 → Int32 → Int32 → Int32 → ph_H → Int32) (x1 : Int32) (x2 : Int32) (x4 : Int32) (x5 : Int32) (x6 : Int32) (x7 : Int32) (x8 : Int32) (x9 : Int32) (h : ph_H) : Int32 := if x7 = 0 then (FX10_spanEdge_92 L21 x1 x2 x4 x5 x6 x8 x9 h) else (if x8 = 0 then (if x6 = x4 then ((x9 - 1)) else (FX10_spanEdge_92 L21 x1 x2 x4 x5 x6 x8 x9 h)) else (FX10_spanEdge_92 L21 x1 x2 x4 x5 x6 x8 x9 h))
def PX10_spanEdge_70 (LP21 : Int32 → Int32 → Int32 → Int32 → Int32 → Int32 → Int32 → Int32 → ph_H → Prop) (x1 : Int32) (x2 : Int32) (x4 : Int32) (x5 : Int32) (x6 : Int32) (x7 : Int32) (x8 : Int32) (x9 : Int32) (h : ph_H) : Prop := (x7 = 0 → (PX10_spanEdge_92 LP21 x1 x2 x4 x5 x6 x8 x9 h)) ∧ (¬ x7 = 0 → ((x8 = 0 → ((x6 = x4 → (True)) ∧ (¬ x6 = x4 → (PX10_spanEdge_92 LP21 x1 x2 x4 x5 x6 x8 x9 h)))) ∧ (¬ x8 = 0 → (PX10_spanEdge_92 LP21 x1 x2 x4 x5 x6 x8 x9 h))))
set_option maxRecDepth 100000 in
set_option maxHeartbeats 4000000 in
theorem tX10_spanEdge_70 {X : fj_X} {Y : fj_Y} {l0 : Launch} {ad : Nat → Nat} {n : Nat} {S : ph_S} {pr : Nat} (W : WS pr n S) (C : FC X Y l0 cX10_spanEdge 10 RX10 ({ frames := 1, cells := 0, slots := 0, locals := 24 } : Room) 0 0 (some .int)) (h : ph_H) (L21 : Int32 → Int32 → Int32 → Int32 → Int32 → Int32 → Int32 → Int32 → ph_H → Int32) (LP21 : Int32 → Int32 → Int32 → Int32 → Int32 → Int32 → Int32 → Int32 → ph_H → Prop) (hL21 : ∀ (x1 : Int32) (x2 : Int32) (x4 : Int32) (x5 : Int32) (x6 : Int32) (x7 : Int32) (x8 : Int32) (x9 : Int32), LP21 x1 x2 x4 x5 x6 x7 x8 x9 h → RETp X Y ad n S h cX10_spanEdge (L21 x1 x2 x4 x5 x6 x7 x8 x9 h) → FJ X Y ad n S h 21 [(0, .ref (ad 35)), (1, .int x1), (2, .int x2), (4, .int x4), (5, .int x5), (6, .int x6), (7, .int x7), (8, .int x8), (9, .int x9)] []) (x1 : Int32) (x2 : Int32) (x4 : Int32) (x5 : Int32) (x6 : Int32) (x7 : Int32) (x8 : Int32) (x9 : Int32) (hP : PX10_spanEdge_70 LP21 x1 x2 x4 x5 x6 x7 x8 x9 h) (hR : RETp X Y ad n S h cX10_spanEdge (FX10_spanEdge_70 L21 x1 x2 x4 x5 x6 x7 x8 x9 h)) : FJ X Y ad n S h 70 [(0, .ref (ad 35)), (1, .int x1), (2, .int x2), (4, .int x4), (5, .int x5), (6, .int x6), (7, .int x7), (8, .int x8), (9, .int x9)] [] := by
  unfold PX10_spanEdge_70 at hP
  unfold FX10_spanEdge_70 at hR
  refine j_iload C dX10_spanEdge_70 rfl ?_
  refine j_if_eq (tgt := 92) C dX10_spanEdge_72 (by decide) (fun c0 => ?_) (fun c0 => ?_)
  · have hP := hP.1 c0
    rw [if_pos c0] at hR
    exact j_vl (tX10_spanEdge_92 W C h L21 LP21 hL21 x1 x2 x4 x5 x6 x8 x9 hP hR) ⟨rfl, rfl, rfl, rfl, rfl, rfl, rfl, rfl, trivial⟩
  · have hP := hP.2 c0
    rw [if_neg c0] at hR
    refine j_iload C dX10_spanEdge_75 rfl ?_
    refine j_if_ne (tgt := 92) C dX10_spanEdge_77 (by decide) (fun c1 => ?_) (fun c1 => ?_)
    · have hP := hP.2 c1
      rw [if_neg c1] at hR
      exact j_vl (tX10_spanEdge_92 W C h L21 LP21 hL21 x1 x2 x4 x5 x6 x8 x9 hP hR) ⟨rfl, rfl, rfl, rfl, rfl, rfl, rfl, rfl, trivial⟩
    · have hP := hP.1 c1
      rw [if_pos c1] at hR
      refine j_iload C dX10_spanEdge_80 rfl ?_
      refine j_iload C dX10_spanEdge_82 rfl ?_
      refine j_icmp_ne (tgt := 92) C dX10_spanEdge_84 (by decide) (fun c2 => ?_) (fun c2 => ?_)
      · have hP := hP.2 c2
        rw [if_neg c2] at hR
        exact j_vl (tX10_spanEdge_92 W C h L21 LP21 hL21 x1 x2 x4 x5 x6 x8 x9 hP hR) ⟨rfl, rfl, rfl, rfl, rfl, rfl, rfl, rfl, trivial⟩
      · have hP := hP.1 c2
        rw [if_pos c2] at hR
        refine j_iload C dX10_spanEdge_87 rfl ?_
        refine j_iconst (v := 1) C dX10_spanEdge_89 (by decide) ?_
        refine j_isub C dX10_spanEdge_90 ?_
        exact hR _ _ dX10_spanEdge_91
def FX10_spanEdge_21  : Nat → Int32 → Int32 → Int32 → Int32 → Int32 → Int32 → Int32 → Int32 → ph_H → Int32
  | 0, _, _, _, _, _, _, _, _, _ => 0
  | q + 1, x1, x2, x4, x5, x6, x7, x8, x9, h => if (h 35 11) < x9 then (if x7 = 0 then ((-1)) else (if x5 = 0 then (if x6 = x4 then ((h 35 11)) else ((-1))) else ((-1)))) else (if (FX10_holdsBehind x9 x1 x2 x8 h) = 0 then (FX10_spanEdge_70 (FX10_spanEdge_21  q) x1 x2 x4 x5 x6 x7 (FX10_holdsBehind x9 x1 x2 x8 h) x9 h) else (if x7 = 0 then (if x5 = 0 then (FX10_spanEdge_70 (FX10_spanEdge_21  q) x1 x2 x4 x5 (x6 + 1) x7 (FX10_holdsBehind x9 x1 x2 x8 h) x9 h) else (if (x6 + 1) = x4 then (x9) else (FX10_spanEdge_70 (FX10_spanEdge_21  q) x1 x2 x4 x5 (x6 + 1) x7 (FX10_holdsBehind x9 x1 x2 x8 h) x9 h))) else (FX10_spanEdge_70 (FX10_spanEdge_21  q) x1 x2 x4 x5 x6 x7 (FX10_holdsBehind x9 x1 x2 x8 h) x9 h)))
def PX10_spanEdge_21  : Nat → Int32 → Int32 → Int32 → Int32 → Int32 → Int32 → Int32 → Int32 → ph_H → Prop
  | 0, _, _, _, _, _, _, _, _, _ => False
  | q + 1, x1, x2, x4, x5, x6, x7, x8, x9, h => ((h 35 11) < x9 → ((x7 = 0 → (True)) ∧ (¬ x7 = 0 → ((x5 = 0 → ((x6 = x4 → (True)) ∧ (¬ x6 = x4 → (True)))) ∧ (¬ x5 = 0 → (True)))))) ∧ (¬ (h 35 11) < x9 → ((PX10_holdsBehind x9 x1 x2 x8 h) ∧ (((FX10_holdsBehind x9 x1 x2 x8 h) = 0 → (PX10_spanEdge_70 (PX10_spanEdge_21  q) x1 x2 x4 x5 x6 x7 (FX10_holdsBehind x9 x1 x2 x8 h) x9 h)) ∧ (¬ (FX10_holdsBehind x9 x1 x2 x8 h) = 0 → ((x7 = 0 → ((x5 = 0 → (PX10_spanEdge_70 (PX10_spanEdge_21  q) x1 x2 x4 x5 (x6 + 1) x7 (FX10_holdsBehind x9 x1 x2 x8 h) x9 h)) ∧ (¬ x5 = 0 → (((x6 + 1) = x4 → (True)) ∧ (¬ (x6 + 1) = x4 → (PX10_spanEdge_70 (PX10_spanEdge_21  q) x1 x2 x4 x5 (x6 + 1) x7 (FX10_holdsBehind x9 x1 x2 x8 h) x9 h)))))) ∧ (¬ x7 = 0 → (PX10_spanEdge_70 (PX10_spanEdge_21  q) x1 x2 x4 x5 x6 x7 (FX10_holdsBehind x9 x1 x2 x8 h) x9 h)))))))
set_option maxRecDepth 100000 in
set_option maxHeartbeats 4000000 in
theorem tX10_spanEdge_21 {X : fj_X} {Y : fj_Y} {l0 : Launch} {ad : Nat → Nat} {n : Nat} {S : ph_S} {pr : Nat} (W : WS pr n S) (C : FC X Y l0 cX10_spanEdge 10 RX10 ({ frames := 1, cells := 0, slots := 0, locals := 24 } : Room) 0 0 (some .int)) (h : ph_H) : ∀ (q : Nat) (x1 : Int32) (x2 : Int32) (x4 : Int32) (x5 : Int32) (x6 : Int32) (x7 : Int32) (x8 : Int32) (x9 : Int32), PX10_spanEdge_21  q x1 x2 x4 x5 x6 x7 x8 x9 h → RETp X Y ad n S h cX10_spanEdge (FX10_spanEdge_21  q x1 x2 x4 x5 x6 x7 x8 x9 h) → FJ X Y ad n S h 21 [(0, .ref (ad 35)), (1, .int x1), (2, .int x2), (4, .int x4), (5, .int x5), (6, .int x6), (7, .int x7), (8, .int x8), (9, .int x9)] [] := by
  intro q
  induction q with
  | zero =>
    intro x1 x2 x4 x5 x6 x7 x8 x9 hP hR
    exact absurd hP id
  | succ q ih =>
    intro x1 x2 x4 x5 x6 x7 x8 x9 hP hR
    unfold PX10_spanEdge_21 at hP
    unfold FX10_spanEdge_21 at hR
    refine j_iload C dX10_spanEdge_21 rfl ?_
    refine j_aload_n C dX10_spanEdge_23 rfl rfl ?_
    refine gCRX10_45 (v := (h 35 11)) C dX10_spanEdge_24 (W.lt 35 (by decide)) (sh_35 W) rfl rfl ?_
    refine j_icmp_gt (tgt := 102) C dX10_spanEdge_27 (by decide) (fun c0 => ?_) (fun c0 => ?_)
    · have hP := hP.1 c0
      rw [if_pos c0] at hR
      refine j_iload C dX10_spanEdge_102 rfl ?_
      refine j_if_eq (tgt := 126) C dX10_spanEdge_104 (by decide) (fun c1 => ?_) (fun c1 => ?_)
      · have hP := hP.1 c1
        rw [if_pos c1] at hR
        refine j_iconst (v := (-1)) C dX10_spanEdge_126 (by decide) ?_
        exact hR _ _ dX10_spanEdge_127
      · have hP := hP.2 c1
        rw [if_neg c1] at hR
        refine j_iload C dX10_spanEdge_107 rfl ?_
        refine j_if_ne (tgt := 126) C dX10_spanEdge_109 (by decide) (fun c2 => ?_) (fun c2 => ?_)
        · have hP := hP.2 c2
          rw [if_neg c2] at hR
          refine j_iconst (v := (-1)) C dX10_spanEdge_126 (by decide) ?_
          exact hR _ _ dX10_spanEdge_127
        · have hP := hP.1 c2
          rw [if_pos c2] at hR
          refine j_iload C dX10_spanEdge_112 rfl ?_
          refine j_iload C dX10_spanEdge_114 rfl ?_
          refine j_icmp_ne (tgt := 126) C dX10_spanEdge_116 (by decide) (fun c3 => ?_) (fun c3 => ?_)
          · have hP := hP.2 c3
            rw [if_neg c3] at hR
            refine j_iconst (v := (-1)) C dX10_spanEdge_126 (by decide) ?_
            exact hR _ _ dX10_spanEdge_127
          · have hP := hP.1 c3
            rw [if_pos c3] at hR
            refine j_aload_n C dX10_spanEdge_119 rfl rfl ?_
            refine gCRX10_45 (v := (h 35 11)) C dX10_spanEdge_120 (W.lt 35 (by decide)) (sh_35 W) rfl rfl ?_
            refine j_goto (tgt := 127) C dX10_spanEdge_123 (by decide) ?_
            exact hR _ _ dX10_spanEdge_127
    · have hP := hP.2 c0
      rw [if_neg c0] at hR
      refine j_aload_n C dX10_spanEdge_30 rfl rfl ?_
      refine j_iload C dX10_spanEdge_31 rfl ?_
      refine j_iload_n C dX10_spanEdge_33 rfl rfl ?_
      refine j_iload_n C dX10_spanEdge_34 rfl rfl ?_
      refine j_iload C dX10_spanEdge_35 rfl ?_
      obtain ⟨p5, hP⟩ := hP
      refine j_callV C (MX10_holdsBehind W x9 x1 x2 x8 h p5) dX10_spanEdge_37 (CKX10_holdsBehind (by decide)) ⟨rfl, rfl⟩ lk_RX10_147 in_X10_holdsBehind se_X10_holdsBehind (W.lt 35 (by decide)) (sh_35 W) rfl rfl (Nat.le_of_ble_eq_true rfl) ?_
      intro r S' h' hq
      obtain ⟨e1, hh, e3, hb7⟩ := hq
      rw [e1, hh, e3]
      refine j_istore C dX10_spanEdge_40 (by decide) rfl ?_
      refine j_iload C dX10_spanEdge_42 rfl ?_
      refine j_if_eq (tgt := 70) C dX10_spanEdge_44 (by decide) (fun c1 => ?_) (fun c1 => ?_)
      · have hP := hP.1 c1
        rw [if_pos c1] at hR
        exact j_vl (tX10_spanEdge_70 W C h (FX10_spanEdge_21  q) (PX10_spanEdge_21  q) (ih) x1 x2 x4 x5 x6 x7 (FX10_holdsBehind x9 x1 x2 x8 h) x9 hP hR) ⟨rfl, rfl, rfl, rfl, rfl, rfl, rfl, rfl, rfl, trivial⟩
      · have hP := hP.2 c1
        rw [if_neg c1] at hR
        refine j_iload C dX10_spanEdge_47 rfl ?_
        refine j_if_ne (tgt := 70) C dX10_spanEdge_49 (by decide) (fun c2 => ?_) (fun c2 => ?_)
        · have hP := hP.2 c2
          rw [if_neg c2] at hR
          exact j_vl (tX10_spanEdge_70 W C h (FX10_spanEdge_21  q) (PX10_spanEdge_21  q) (ih) x1 x2 x4 x5 x6 x7 (FX10_holdsBehind x9 x1 x2 x8 h) x9 hP hR) ⟨rfl, rfl, rfl, rfl, rfl, rfl, rfl, rfl, rfl, trivial⟩
        · have hP := hP.1 c2
          rw [if_pos c2] at hR
          refine j_iinc (v := (x6 + 1)) C dX10_spanEdge_52 rfl rfl (by decide) rfl ?_
          refine j_iload C dX10_spanEdge_55 rfl ?_
          refine j_if_eq (tgt := 70) C dX10_spanEdge_57 (by decide) (fun c3 => ?_) (fun c3 => ?_)
          · have hP := hP.1 c3
            rw [if_pos c3] at hR
            exact j_vl (tX10_spanEdge_70 W C h (FX10_spanEdge_21  q) (PX10_spanEdge_21  q) (ih) x1 x2 x4 x5 (x6 + 1) x7 (FX10_holdsBehind x9 x1 x2 x8 h) x9 hP hR) ⟨rfl, rfl, rfl, rfl, rfl, rfl, rfl, rfl, rfl, trivial⟩
          · have hP := hP.2 c3
            rw [if_neg c3] at hR
            refine j_iload C dX10_spanEdge_60 rfl ?_
            refine j_iload C dX10_spanEdge_62 rfl ?_
            refine j_icmp_ne (tgt := 70) C dX10_spanEdge_64 (by decide) (fun c4 => ?_) (fun c4 => ?_)
            · have hP := hP.2 c4
              rw [if_neg c4] at hR
              exact j_vl (tX10_spanEdge_70 W C h (FX10_spanEdge_21  q) (PX10_spanEdge_21  q) (ih) x1 x2 x4 x5 (x6 + 1) x7 (FX10_holdsBehind x9 x1 x2 x8 h) x9 hP hR) ⟨rfl, rfl, rfl, rfl, rfl, rfl, rfl, rfl, rfl, trivial⟩
            · have hP := hP.1 c4
              rw [if_pos c4] at hR
              refine j_iload C dX10_spanEdge_67 rfl ?_
              exact hR _ _ dX10_spanEdge_69
def FX10_spanEdge_16  (x1 : Int32) (x2 : Int32) (x4 : Int32) (x5 : Int32) (x6 : Int32) (x7 : Int32) (s0 : Int32) (h : ph_H) : Int32 := FX10_spanEdge_21 2000 x1 x2 x4 x5 x6 x7 s0 0 h
def PX10_spanEdge_16  (x1 : Int32) (x2 : Int32) (x4 : Int32) (x5 : Int32) (x6 : Int32) (x7 : Int32) (s0 : Int32) (h : ph_H) : Prop := PX10_spanEdge_21 2000 x1 x2 x4 x5 x6 x7 s0 0 h
set_option maxRecDepth 100000 in
set_option maxHeartbeats 4000000 in
theorem tX10_spanEdge_16 {X : fj_X} {Y : fj_Y} {l0 : Launch} {ad : Nat → Nat} {n : Nat} {S : ph_S} {pr : Nat} (W : WS pr n S) (C : FC X Y l0 cX10_spanEdge 10 RX10 ({ frames := 1, cells := 0, slots := 0, locals := 24 } : Room) 0 0 (some .int)) (h : ph_H) (x1 : Int32) (x2 : Int32) (x4 : Int32) (x5 : Int32) (x6 : Int32) (x7 : Int32) (s0 : Int32) (hP : PX10_spanEdge_16  x1 x2 x4 x5 x6 x7 s0 h) (hR : RETp X Y ad n S h cX10_spanEdge (FX10_spanEdge_16  x1 x2 x4 x5 x6 x7 s0 h)) : FJ X Y ad n S h 16 [(0, .ref (ad 35)), (1, .int x1), (2, .int x2), (4, .int x4), (5, .int x5), (6, .int x6), (7, .int x7)] [.int s0] := by
  unfold PX10_spanEdge_16 at hP
  unfold FX10_spanEdge_16 at hR
  refine j_istore C dX10_spanEdge_16 (by decide) rfl ?_
  refine j_iconst (v := 0) C dX10_spanEdge_18 (by decide) ?_
  refine j_istore C dX10_spanEdge_19 (by decide) rfl ?_
  exact j_vl (tX10_spanEdge_21 W C h 2000 x1 x2 x4 x5 x6 x7 s0 0 hP hR) ⟨rfl, rfl, rfl, rfl, rfl, rfl, rfl, rfl, rfl, trivial⟩
def FX10_spanEdge (a0 : Int32) (a1 : Int32) (a2 : Int32) (a3 : Int32) (a4 : Int32) (h : ph_H) : Int32 := if a2 = a1 then (FX10_spanEdge_16  a0 a1 a3 a4 (-1) 0 1 h) else (FX10_spanEdge_16  a0 a1 a3 a4 (-1) 0 0 h)
def PX10_spanEdge (a0 : Int32) (a1 : Int32) (a2 : Int32) (a3 : Int32) (a4 : Int32) (h : ph_H) : Prop := (a2 = a1 → (PX10_spanEdge_16  a0 a1 a3 a4 (-1) 0 1 h)) ∧ (¬ a2 = a1 → (PX10_spanEdge_16  a0 a1 a3 a4 (-1) 0 0 h))
set_option maxRecDepth 100000 in
set_option maxHeartbeats 4000000 in
theorem tX10_spanEdge {X : fj_X} {Y : fj_Y} {l0 : Launch} {ad : Nat → Nat} {n : Nat} {S : ph_S} {pr : Nat} (W : WS pr n S) (C : FC X Y l0 cX10_spanEdge 10 RX10 ({ frames := 1, cells := 0, slots := 0, locals := 24 } : Room) 0 0 (some .int)) (a0 : Int32) (a1 : Int32) (a2 : Int32) (a3 : Int32) (a4 : Int32) (h : ph_H) (hP : PX10_spanEdge a0 a1 a2 a3 a4 h) (hR : RETp X Y ad n S h cX10_spanEdge (FX10_spanEdge a0 a1 a2 a3 a4 h)) : FJ X Y ad n S h 0 [(0, .ref (ad 35)), (1, .int a0), (2, .int a1), (3, .int a2), (4, .int a3), (5, .int a4)] [] := by
  unfold PX10_spanEdge at hP
  unfold FX10_spanEdge at hR
  refine j_iconst (v := (-1)) C dX10_spanEdge_0 (by decide) ?_
  refine j_istore C dX10_spanEdge_1 (by decide) rfl ?_
  refine j_iconst (v := 0) C dX10_spanEdge_3 (by decide) ?_
  refine j_istore C dX10_spanEdge_4 (by decide) rfl ?_
  refine j_iload_n C dX10_spanEdge_6 rfl rfl ?_
  refine j_iload_n C dX10_spanEdge_7 rfl rfl ?_
  refine j_icmp_ne (tgt := 15) C dX10_spanEdge_8 (by decide) (fun c0 => ?_) (fun c0 => ?_)
  · have hP := hP.2 c0
    rw [if_neg c0] at hR
    refine j_iconst (v := 0) C dX10_spanEdge_15 (by decide) ?_
    exact j_vl (tX10_spanEdge_16 W C h a0 a1 a3 a4 (-1) 0 0 hP hR) ⟨rfl, rfl, rfl, rfl, rfl, rfl, rfl, trivial⟩
  · have hP := hP.1 c0
    rw [if_pos c0] at hR
    refine j_iconst (v := 1) C dX10_spanEdge_11 (by decide) ?_
    refine j_goto (tgt := 16) C dX10_spanEdge_12 (by decide) ?_
    exact j_vl (tX10_spanEdge_16 W C h a0 a1 a3 a4 (-1) 0 1 hP hR) ⟨rfl, rfl, rfl, rfl, rfl, rfl, rfl, trivial⟩
theorem MX10_spanEdge {l0 : Launch} {Y : fj_Y} {ad : Nat → Nat} {n : Nat} {S : ph_S} {pr : Nat} (W : WS pr n S) (a0 : Int32) (a1 : Int32) (a2 : Int32) (a3 : Int32) (a4 : Int32) (h : ph_H) (hP : PX10_spanEdge a0 a1 a2 a3 a4 h) : MI l0 yX10_spanEdge cX10_spanEdge 10 (some .int) ({ frames := 1, cells := 0, slots := 0, locals := 24 } : Room) Y ad n S h [.ref (ad 35), .int a0, .int a1, .int a2, .int a3, .int a4] (fun r S' h' => S' = S ∧ h' = h ∧ r = FX10_spanEdge a0 a1 a2 a3 a4 h) := met_i (by decide) (Nat.le_of_ble_eq_true rfl) (fun _ _ _ _ => rfl) (fun X C K => j_vl (tX10_spanEdge W C a0 a1 a2 a3 a4 h hP (fun pc lv hd => K _ _ _ ⟨rfl, rfl, rfl⟩ pc lv hd)) ⟨rfl, rfl, rfl, rfl, rfl, rfl, trivial⟩)

-- X11_when
def FX11_when_81  (s0 : Int32) (s1 : Int32) (s2 : Int32) (s3 : Int32) (s4 : Int32) (h : ph_H) : Int32 := (FX10_spanEdge s4 s3 s2 s1 s0 h)
def PX11_when_81  (s0 : Int32) (s1 : Int32) (s2 : Int32) (s3 : Int32) (s4 : Int32) (h : ph_H) : Prop := (PX10_spanEdge s4 s3 s2 s1 s0 h) ∧ (True)
set_option maxRecDepth 100000 in
set_option maxHeartbeats 4000000 in
theorem tX11_when_81 {X : fj_X} {Y : fj_Y} {l0 : Launch} {ad : Nat → Nat} {n : Nat} {S : ph_S} {pr : Nat} (W : WS pr n S) (C : FC X Y l0 cX11_when 5 RX11 ({ frames := 2, cells := 0, slots := 0, locals := 53 } : Room) 0 0 (some .int)) (h : ph_H) (s0 : Int32) (s1 : Int32) (s2 : Int32) (s3 : Int32) (s4 : Int32) (hP : PX11_when_81  s0 s1 s2 s3 s4 h) (hR : RETp X Y ad n S h cX11_when (FX11_when_81  s0 s1 s2 s3 s4 h)) : FJ X Y ad n S h 81 [] [.int s0, .int s1, .int s2, .int s3, .int s4, .ref (ad 35)] := by
  unfold PX11_when_81 at hP
  unfold FX11_when_81 at hR
  obtain ⟨p0, hP⟩ := hP
  refine j_callV C (MX10_spanEdge W s4 s3 s2 s1 s0 h p0) dX11_when_81 (CKX10_spanEdge (by decide)) ⟨rfl, rfl⟩ lk_RX11_247 in_X10_spanEdge se_X10_spanEdge (W.lt 35 (by decide)) (sh_35 W) rfl rfl (Nat.le_of_ble_eq_true rfl) ?_
  intro r S' h' hq
  obtain ⟨e1, hh, e3⟩ := hq
  rw [e1, hh, e3]
  exact hR _ _ dX11_when_84
def FX11_when (a0 : Int32) (a1 : Int32) (a2 : Int32) (a3 : Int32) (h : ph_H) : Int32 := if (h 0 8) = 0 then ((-2)) else (if (FX11_isCell a0) = 0 then ((-1)) else (if a3 < 0 then ((-1)) else (if a3 ≤ 2 then (if a3 = 0 then ((FX10_spanCount a0 a1 (h 11 (a0.toNatClampNeg)) h)) else (if a3 = 1 then (FX11_when_81  1 a2 (h 11 (a0.toNatClampNeg)) a1 a0 h) else (FX11_when_81  0 a2 (h 11 (a0.toNatClampNeg)) a1 a0 h))) else ((-1)))))
def PX11_when (a0 : Int32) (a1 : Int32) (a2 : Int32) (a3 : Int32) (h : ph_H) : Prop := ((h 0 8) = 0 → (True)) ∧ (¬ (h 0 8) = 0 → ((PX11_isCell a0) ∧ (((FX11_isCell a0) = 0 → (True)) ∧ (¬ (FX11_isCell a0) = 0 → ((a3 < 0 → (True)) ∧ (¬ a3 < 0 → ((a3 ≤ 2 → ((a3 = 0 → (vp_in a0 12 ∧ ((PX10_spanCount a0 a1 (h 11 (a0.toNatClampNeg)) h) ∧ (True)))) ∧ (¬ a3 = 0 → (vp_in a0 12 ∧ ((a3 = 1 → (PX11_when_81  1 a2 (h 11 (a0.toNatClampNeg)) a1 a0 h)) ∧ (¬ a3 = 1 → (PX11_when_81  0 a2 (h 11 (a0.toNatClampNeg)) a1 a0 h))))))) ∧ (¬ a3 ≤ 2 → (True)))))))))
set_option maxRecDepth 100000 in
set_option maxHeartbeats 4000000 in
theorem tX11_when {X : fj_X} {Y : fj_Y} {l0 : Launch} {ad : Nat → Nat} {n : Nat} {S : ph_S} {pr : Nat} (W : WS pr n S) (C : FC X Y l0 cX11_when 5 RX11 ({ frames := 2, cells := 0, slots := 0, locals := 53 } : Room) 0 0 (some .int)) (a0 : Int32) (a1 : Int32) (a2 : Int32) (a3 : Int32) (h : ph_H) (hP : PX11_when a0 a1 a2 a3 h) (hR : RETp X Y ad n S h cX11_when (FX11_when a0 a1 a2 a3 h)) : FJ X Y ad n S h 0 [(0, .ref (ad 0)), (1, .int a0), (2, .int a1), (3, .int a2), (4, .int a3)] [] := by
  unfold PX11_when at hP
  unfold FX11_when at hR
  refine j_aload_n C dX11_when_0 rfl rfl ?_
  refine gCRX11_116 (v := (h 0 8)) C dX11_when_1 (W.lt 0 (by decide)) (sh_0 W) rfl rfl ?_
  refine j_if_ne (tgt := 10) C dX11_when_4 (by decide) (fun c0 => ?_) (fun c0 => ?_)
  · have hP := hP.2 c0
    rw [if_neg c0] at hR
    refine j_iload_n C dX11_when_10 rfl rfl ?_
    obtain ⟨p1, hP⟩ := hP
    refine j_callS C (MX11_isCell W a0 h p1) dX11_when_11 (CKX11_isCell (by decide)) ⟨rfl, rfl⟩ lk_RX11_81 st_X11_isCell rfl (Nat.le_of_ble_eq_true rfl) ?_
    intro r S' h' hq
    obtain ⟨e1, hh, e3, hb3⟩ := hq
    rw [e1, hh, e3]
    refine j_if_eq (tgt := 28) C dX11_when_14 (by decide) (fun c1 => ?_) (fun c1 => ?_)
    · have hP := hP.1 c1
      rw [if_pos c1] at hR
      refine j_iconst (v := (-1)) C dX11_when_28 (by decide) ?_
      exact hR _ _ dX11_when_29
    · have hP := hP.2 c1
      rw [if_neg c1] at hR
      refine j_iload C dX11_when_17 rfl ?_
      refine j_if_lt (tgt := 28) C dX11_when_19 (by decide) (fun c2 => ?_) (fun c2 => ?_)
      · have hP := hP.1 c2
        rw [if_pos c2] at hR
        refine j_iconst (v := (-1)) C dX11_when_28 (by decide) ?_
        exact hR _ _ dX11_when_29
      · have hP := hP.2 c2
        rw [if_neg c2] at hR
        refine j_iload C dX11_when_22 rfl ?_
        refine j_iconst (v := 2) C dX11_when_24 (by decide) ?_
        refine j_icmp_le (tgt := 30) C dX11_when_25 (by decide) (fun c3 => ?_) (fun c3 => ?_)
        · have hP := hP.1 c3
          rw [if_pos c3] at hR
          refine j_iload C dX11_when_30 rfl ?_
          refine j_if_ne (tgt := 54) C dX11_when_32 (by decide) (fun c4 => ?_) (fun c4 => ?_)
          · have hP := hP.2 c4
            rw [if_neg c4] at hR
            refine j_aload_n C dX11_when_54 rfl rfl ?_
            refine gCRX11_34 C dX11_when_55 (W.lt 0 (by decide)) (sh_0 W) rfl ?_
            refine j_iload_n C dX11_when_58 rfl rfl ?_
            refine j_iload_n C dX11_when_59 rfl rfl ?_
            refine j_aload_n C dX11_when_60 rfl rfl ?_
            refine gCRX11_16 C dX11_when_61 (W.lt 0 (by decide)) (sh_0 W) rfl ?_
            refine gCRX11_84 C dX11_when_64 (W.lt 8 (by decide)) (sh_8 W) rfl ?_
            refine j_iload_n C dX11_when_67 rfl rfl ?_
            obtain ⟨p8, hP⟩ := hP
            refine j_iald (k := 11) (v := (h 11 (a0.toNatClampNeg))) C dX11_when_68 (W.lt 11 (by decide)) (sh_11 W) p8 rfl ?_
            refine j_iload_n C dX11_when_69 rfl rfl ?_
            refine j_iload C dX11_when_70 rfl ?_
            refine j_iconst (v := 1) C dX11_when_72 (by decide) ?_
            refine j_icmp_ne (tgt := 80) C dX11_when_73 (by decide) (fun c5 => ?_) (fun c5 => ?_)
            · have hP := hP.2 c5
              rw [if_neg c5] at hR
              refine j_iconst (v := 0) C dX11_when_80 (by decide) ?_
              exact j_vl (tX11_when_81 W C h 0 a2 (h 11 (a0.toNatClampNeg)) a1 a0 hP hR) trivial
            · have hP := hP.1 c5
              rw [if_pos c5] at hR
              refine j_iconst (v := 1) C dX11_when_76 (by decide) ?_
              refine j_goto (tgt := 81) C dX11_when_77 (by decide) ?_
              exact j_vl (tX11_when_81 W C h 1 a2 (h 11 (a0.toNatClampNeg)) a1 a0 hP hR) trivial
          · have hP := hP.1 c4
            rw [if_pos c4] at hR
            refine j_aload_n C dX11_when_35 rfl rfl ?_
            refine gCRX11_34 C dX11_when_36 (W.lt 0 (by decide)) (sh_0 W) rfl ?_
            refine j_iload_n C dX11_when_39 rfl rfl ?_
            refine j_iload_n C dX11_when_40 rfl rfl ?_
            refine j_aload_n C dX11_when_41 rfl rfl ?_
            refine gCRX11_16 C dX11_when_42 (W.lt 0 (by decide)) (sh_0 W) rfl ?_
            refine gCRX11_84 C dX11_when_45 (W.lt 8 (by decide)) (sh_8 W) rfl ?_
            refine j_iload_n C dX11_when_48 rfl rfl ?_
            obtain ⟨p8, hP⟩ := hP
            refine j_iald (k := 11) (v := (h 11 (a0.toNatClampNeg))) C dX11_when_49 (W.lt 11 (by decide)) (sh_11 W) p8 rfl ?_
            obtain ⟨p10, hP⟩ := hP
            refine j_callV C (MX10_spanCount W a0 a1 (h 11 (a0.toNatClampNeg)) h p10) dX11_when_50 (CKX10_spanCount (by decide)) ⟨rfl, rfl⟩ lk_RX11_243 in_X10_spanCount se_X10_spanCount (W.lt 35 (by decide)) (sh_35 W) rfl rfl (Nat.le_of_ble_eq_true rfl) ?_
            intro r S' h' hq
            obtain ⟨e1, hh, e3⟩ := hq
            rw [e1, hh, e3]
            exact hR _ _ dX11_when_53
        · have hP := hP.2 c3
          rw [if_neg c3] at hR
          refine j_iconst (v := (-1)) C dX11_when_28 (by decide) ?_
          exact hR _ _ dX11_when_29
  · have hP := hP.1 c0
    rw [if_pos c0] at hR
    refine j_bipush (v := (-2)) C dX11_when_7 (by decide) ?_
    exact hR _ _ dX11_when_9
theorem MX11_when {l0 : Launch} {Y : fj_Y} {ad : Nat → Nat} {n : Nat} {S : ph_S} {pr : Nat} (W : WS pr n S) (a0 : Int32) (a1 : Int32) (a2 : Int32) (a3 : Int32) (h : ph_H) (hP : PX11_when a0 a1 a2 a3 h) : MI l0 yX11_when cX11_when 5 (some .int) ({ frames := 2, cells := 0, slots := 0, locals := 53 } : Room) Y ad n S h [.ref (ad 0), .int a0, .int a1, .int a2, .int a3] (fun r S' h' => S' = S ∧ h' = h ∧ r = FX11_when a0 a1 a2 a3 h) := met_i (by decide) (Nat.le_of_ble_eq_true rfl) (fun _ _ _ _ => rfl) (fun X C K => j_vl (tX11_when W C a0 a1 a2 a3 h hP (fun pc lv hd => K _ _ _ ⟨rfl, rfl, rfl⟩ pc lv hd)) ⟨rfl, rfl, rfl, rfl, rfl, trivial⟩)

-- X4_isAhead
def FX4_isAhead (a0 : Int32) (a1 : Int32) (h : ph_H) : Int32 := if a1 ≤ a0 then (0) else (if (h 48 (((a1 * 4) + (h 36 (a0.toNatClampNeg))).toNatClampNeg)) < a0 then (0) else (1))
def PX4_isAhead (a0 : Int32) (a1 : Int32) (h : ph_H) : Prop := (a1 ≤ a0 → (True)) ∧ (¬ a1 ≤ a0 → (vp_in a0 301 ∧ (vp_in ((a1 * 4) + (h 36 (a0.toNatClampNeg))) 1204 ∧ (((h 48 (((a1 * 4) + (h 36 (a0.toNatClampNeg))).toNatClampNeg)) < a0 → (True)) ∧ (¬ (h 48 (((a1 * 4) + (h 36 (a0.toNatClampNeg))).toNatClampNeg)) < a0 → (True))))))
set_option maxRecDepth 100000 in
set_option maxHeartbeats 4000000 in
theorem tX4_isAhead {X : fj_X} {Y : fj_Y} {l0 : Launch} {ad : Nat → Nat} {n : Nat} {S : ph_S} {pr : Nat} (W : WS pr n S) (C : FC X Y l0 cX4_isAhead 3 RX4 ({ frames := 0, cells := 0, slots := 0, locals := 0 } : Room) 0 0 (some .boolean)) (a0 : Int32) (a1 : Int32) (h : ph_H) (hP : PX4_isAhead a0 a1 h) (hR : RETq X Y ad n S h cX4_isAhead (FX4_isAhead a0 a1 h)) : FJ X Y ad n S h 0 [(0, .ref (ad 47)), (1, .int a0), (2, .int a1)] [] := by
  unfold PX4_isAhead at hP
  unfold FX4_isAhead at hR
  refine j_iload_n C dX4_isAhead_0 rfl rfl ?_
  refine j_iload_n C dX4_isAhead_1 rfl rfl ?_
  refine j_icmp_ge (tgt := 31) C dX4_isAhead_2 (by decide) (fun c0 => ?_) (fun c0 => ?_)
  · have hP := hP.1 c0
    rw [if_pos c0] at hR
    refine j_iconst (v := 0) C dX4_isAhead_31 (by decide) ?_
    exact hR bo_0 _ _ dX4_isAhead_32
  · have hP := hP.2 c0
    rw [if_neg c0] at hR
    refine j_aload_n C dX4_isAhead_5 rfl rfl ?_
    refine gCRX4_9 C dX4_isAhead_6 (W.lt 47 (by decide)) (sh_47 W) rfl ?_
    refine j_iload_n C dX4_isAhead_9 rfl rfl ?_
    refine j_iconst (v := 4) C dX4_isAhead_10 (by decide) ?_
    refine j_imul C dX4_isAhead_11 ?_
    refine j_aload_n C dX4_isAhead_12 rfl rfl ?_
    refine gCRX4_24 C dX4_isAhead_13 (W.lt 47 (by decide)) (sh_47 W) rfl ?_
    refine gCRX4_55 C dX4_isAhead_16 (W.lt 35 (by decide)) (sh_35 W) rfl ?_
    refine j_iload_n C dX4_isAhead_19 rfl rfl ?_
    obtain ⟨p9, hP⟩ := hP
    refine j_iald (k := 36) (v := (h 36 (a0.toNatClampNeg))) C dX4_isAhead_20 (W.lt 36 (by decide)) (sh_36 W) p9 rfl ?_
    refine j_iadd C dX4_isAhead_21 ?_
    obtain ⟨p12, hP⟩ := hP
    refine j_iald (k := 48) (v := (h 48 (((a1 * 4) + (h 36 (a0.toNatClampNeg))).toNatClampNeg))) C dX4_isAhead_22 (W.lt 48 (by decide)) (sh_48 W) p12 rfl ?_
    refine j_iload_n C dX4_isAhead_23 rfl rfl ?_
    refine j_icmp_lt (tgt := 31) C dX4_isAhead_24 (by decide) (fun c1 => ?_) (fun c1 => ?_)
    · have hP := hP.1 c1
      rw [if_pos c1] at hR
      refine j_iconst (v := 0) C dX4_isAhead_31 (by decide) ?_
      exact hR bo_0 _ _ dX4_isAhead_32
    · have hP := hP.2 c1
      rw [if_neg c1] at hR
      refine j_iconst (v := 1) C dX4_isAhead_27 (by decide) ?_
      refine j_goto (tgt := 32) C dX4_isAhead_28 (by decide) ?_
      exact hR bo_1 _ _ dX4_isAhead_32
theorem MX4_isAhead {l0 : Launch} {Y : fj_Y} {ad : Nat → Nat} {n : Nat} {S : ph_S} {pr : Nat} (W : WS pr n S) (a0 : Int32) (a1 : Int32) (h : ph_H) (hP : PX4_isAhead a0 a1 h) : MI l0 yX4_isAhead cX4_isAhead 3 (some .boolean) ({ frames := 0, cells := 0, slots := 0, locals := 0 } : Room) Y ad n S h [.ref (ad 47), .int a0, .int a1] (fun r S' h' => S' = S ∧ h' = h ∧ r = FX4_isAhead a0 a1 h ∧ bo r) := met_i (by decide) (Nat.le_of_ble_eq_true rfl) (fun _ _ _ q => bo_n q.2.2.2) (fun X C K => j_vl (tX4_isAhead W C a0 a1 h hP (fun b pc lv hd => K _ _ _ ⟨rfl, rfl, rfl, b⟩ pc lv hd)) ⟨rfl, rfl, rfl, trivial⟩)

-- J7_fill_53178_k49
def FJ7_fill_53178_k49_5  : Nat → Int32 → Int32 → Int32 → ph_H → ph_H
  | 0, _, _, _, h => h
  | q + 1, x1, x2, x3, h => if x3 ≤ x2 then (h) else (FJ7_fill_53178_k49_5  q x1 (x2 + 1) x3 (hs h 49 x2.toNatClampNeg x1))
def PJ7_fill_53178_k49_5  : Nat → Int32 → Int32 → Int32 → ph_H → Prop
  | 0, _, _, _, _ => False
  | q + 1, x1, x2, x3, h => (x3 ≤ x2 → (True)) ∧ (¬ x3 ≤ x2 → (vp_in x2 16 ∧ (PJ7_fill_53178_k49_5  q x1 (x2 + 1) x3 (hs h 49 x2.toNatClampNeg x1))))
set_option maxRecDepth 100000 in
set_option maxHeartbeats 4000000 in
theorem tJ7_fill_53178_k49_5 {X : fj_X} {Y : fj_Y} {l0 : Launch} {ad : Nat → Nat} {n : Nat} {S : ph_S} {pr : Nat} (W : WS pr n S) (C : FC X Y l0 cJ7_fill_53178 4 RJ7 ({ frames := 0, cells := 0, slots := 0, locals := 0 } : Room) 0 0 none) : ∀ (q : Nat) (x1 : Int32) (x2 : Int32) (x3 : Int32) (h : ph_H), PJ7_fill_53178_k49_5  q x1 x2 x3 h → RETv X Y ad n S cJ7_fill_53178 (FJ7_fill_53178_k49_5  q x1 x2 x3 h) → FJ X Y ad n S h 5 [(0, .ref (ad 49)), (1, .int x1), (2, .int x2), (3, .int x3)] [] := by
  intro q
  induction q with
  | zero =>
    intro x1 x2 x3 h hP hR
    exact absurd hP id
  | succ q ih =>
    intro x1 x2 x3 h hP hR
    unfold PJ7_fill_53178_k49_5 at hP
    unfold FJ7_fill_53178_k49_5 at hR
    refine j_iload_n C dJ7_fill_53178_5 rfl rfl ?_
    refine j_iload_n C dJ7_fill_53178_6 rfl rfl ?_
    refine j_icmp_ge (tgt := 20) C dJ7_fill_53178_7 (by decide) (fun c0 => ?_) (fun c0 => ?_)
    · have hP := hP.1 c0
      rw [if_pos c0] at hR
      exact hR _ _ dJ7_fill_53178_20
    · have hP := hP.2 c0
      rw [if_neg c0] at hR
      refine j_aload_n C dJ7_fill_53178_10 rfl rfl ?_
      refine j_iload_n C dJ7_fill_53178_11 rfl rfl ?_
      refine j_iload_n C dJ7_fill_53178_12 rfl rfl ?_
      obtain ⟨p3, hP⟩ := hP
      refine j_iast (k := 49) C dJ7_fill_53178_13 (W.lt 49 (by decide)) (sh_49 W) p3 ?_
      refine j_iinc (v := (x2 + 1)) C dJ7_fill_53178_14 rfl rfl (by decide) rfl ?_
      refine j_goto (tgt := 5) C dJ7_fill_53178_17 (by decide) ?_
      exact j_vl (ih x1 (x2 + 1) x3 (hs h 49 x2.toNatClampNeg x1) hP hR) ⟨rfl, rfl, rfl, rfl, trivial⟩
def FJ7_fill_53178_k49 (a1 : Int32) (h : ph_H) : ph_H := FJ7_fill_53178_k49_5 2000 a1 0 16 h
def PJ7_fill_53178_k49 (a1 : Int32) (h : ph_H) : Prop := PJ7_fill_53178_k49_5 2000 a1 0 16 h
set_option maxRecDepth 100000 in
set_option maxHeartbeats 4000000 in
theorem tJ7_fill_53178_k49 {X : fj_X} {Y : fj_Y} {l0 : Launch} {ad : Nat → Nat} {n : Nat} {S : ph_S} {pr : Nat} (W : WS pr n S) (C : FC X Y l0 cJ7_fill_53178 4 RJ7 ({ frames := 0, cells := 0, slots := 0, locals := 0 } : Room) 0 0 none) (a1 : Int32) (h : ph_H) (hP : PJ7_fill_53178_k49 a1 h) (hR : RETv X Y ad n S cJ7_fill_53178 (FJ7_fill_53178_k49 a1 h)) : FJ X Y ad n S h 0 [(0, .ref (ad 49)), (1, .int a1)] [] := by
  unfold PJ7_fill_53178_k49 at hP
  unfold FJ7_fill_53178_k49 at hR
  refine j_iconst (v := 0) C dJ7_fill_53178_0 (by decide) ?_
  refine j_istore_n C dJ7_fill_53178_1 rfl (by decide) rfl ?_
  refine j_aload_n C dJ7_fill_53178_2 rfl rfl ?_
  refine j_alen (v := 16) (ty := .int) C dJ7_fill_53178_3 (W.lt 49 (by decide)) (sh_49 W) rfl (by decide) ?_
  refine j_istore_n C dJ7_fill_53178_4 rfl (by decide) rfl ?_
  exact j_vl (tJ7_fill_53178_k49_5 W C 2000 a1 0 16 h hP hR) ⟨rfl, rfl, rfl, rfl, trivial⟩
theorem MJ7_fill_53178_k49 {l0 : Launch} {Y : fj_Y} {ad : Nat → Nat} {n : Nat} {S : ph_S} {pr : Nat} (W : WS pr n S) (a1 : Int32) (h : ph_H) (hP : PJ7_fill_53178_k49 a1 h) : MV l0 yJ7_fill_53178 cJ7_fill_53178 4 ({ frames := 0, cells := 0, slots := 0, locals := 0 } : Room) Y ad n S h [.ref (ad 49), .int a1] (fun S' h' => S' = S ∧ h' = FJ7_fill_53178_k49 a1 h) := met_v (by decide) (Nat.le_of_ble_eq_true rfl) (fun X C K => j_vl (tJ7_fill_53178_k49 W C a1 h hP (fun pc lv hd => K _ _ ⟨rfl, rfl⟩ pc lv hd)) ⟨rfl, rfl, trivial⟩)

-- J7_fill_53178_k50
def FJ7_fill_53178_k50_5  : Nat → Int32 → Int32 → Int32 → ph_H → ph_H
  | 0, _, _, _, h => h
  | q + 1, x1, x2, x3, h => if x3 ≤ x2 then (h) else (FJ7_fill_53178_k50_5  q x1 (x2 + 1) x3 (hs h 50 x2.toNatClampNeg x1))
def PJ7_fill_53178_k50_5  : Nat → Int32 → Int32 → Int32 → ph_H → Prop
  | 0, _, _, _, _ => False
  | q + 1, x1, x2, x3, h => (x3 ≤ x2 → (True)) ∧ (¬ x3 ≤ x2 → (vp_in x2 48 ∧ (PJ7_fill_53178_k50_5  q x1 (x2 + 1) x3 (hs h 50 x2.toNatClampNeg x1))))
set_option maxRecDepth 100000 in
set_option maxHeartbeats 4000000 in
theorem tJ7_fill_53178_k50_5 {X : fj_X} {Y : fj_Y} {l0 : Launch} {ad : Nat → Nat} {n : Nat} {S : ph_S} {pr : Nat} (W : WS pr n S) (C : FC X Y l0 cJ7_fill_53178 4 RJ7 ({ frames := 0, cells := 0, slots := 0, locals := 0 } : Room) 0 0 none) : ∀ (q : Nat) (x1 : Int32) (x2 : Int32) (x3 : Int32) (h : ph_H), PJ7_fill_53178_k50_5  q x1 x2 x3 h → RETv X Y ad n S cJ7_fill_53178 (FJ7_fill_53178_k50_5  q x1 x2 x3 h) → FJ X Y ad n S h 5 [(0, .ref (ad 50)), (1, .int x1), (2, .int x2), (3, .int x3)] [] := by
  intro q
  induction q with
  | zero =>
    intro x1 x2 x3 h hP hR
    exact absurd hP id
  | succ q ih =>
    intro x1 x2 x3 h hP hR
    unfold PJ7_fill_53178_k50_5 at hP
    unfold FJ7_fill_53178_k50_5 at hR
    refine j_iload_n C dJ7_fill_53178_5 rfl rfl ?_
    refine j_iload_n C dJ7_fill_53178_6 rfl rfl ?_
    refine j_icmp_ge (tgt := 20) C dJ7_fill_53178_7 (by decide) (fun c0 => ?_) (fun c0 => ?_)
    · have hP := hP.1 c0
      rw [if_pos c0] at hR
      exact hR _ _ dJ7_fill_53178_20
    · have hP := hP.2 c0
      rw [if_neg c0] at hR
      refine j_aload_n C dJ7_fill_53178_10 rfl rfl ?_
      refine j_iload_n C dJ7_fill_53178_11 rfl rfl ?_
      refine j_iload_n C dJ7_fill_53178_12 rfl rfl ?_
      obtain ⟨p3, hP⟩ := hP
      refine j_iast (k := 50) C dJ7_fill_53178_13 (W.lt 50 (by decide)) (sh_50 W) p3 ?_
      refine j_iinc (v := (x2 + 1)) C dJ7_fill_53178_14 rfl rfl (by decide) rfl ?_
      refine j_goto (tgt := 5) C dJ7_fill_53178_17 (by decide) ?_
      exact j_vl (ih x1 (x2 + 1) x3 (hs h 50 x2.toNatClampNeg x1) hP hR) ⟨rfl, rfl, rfl, rfl, trivial⟩
def FJ7_fill_53178_k50 (a1 : Int32) (h : ph_H) : ph_H := FJ7_fill_53178_k50_5 2000 a1 0 48 h
def PJ7_fill_53178_k50 (a1 : Int32) (h : ph_H) : Prop := PJ7_fill_53178_k50_5 2000 a1 0 48 h
set_option maxRecDepth 100000 in
set_option maxHeartbeats 4000000 in
theorem tJ7_fill_53178_k50 {X : fj_X} {Y : fj_Y} {l0 : Launch} {ad : Nat → Nat} {n : Nat} {S : ph_S} {pr : Nat} (W : WS pr n S) (C : FC X Y l0 cJ7_fill_53178 4 RJ7 ({ frames := 0, cells := 0, slots := 0, locals := 0 } : Room) 0 0 none) (a1 : Int32) (h : ph_H) (hP : PJ7_fill_53178_k50 a1 h) (hR : RETv X Y ad n S cJ7_fill_53178 (FJ7_fill_53178_k50 a1 h)) : FJ X Y ad n S h 0 [(0, .ref (ad 50)), (1, .int a1)] [] := by
  unfold PJ7_fill_53178_k50 at hP
  unfold FJ7_fill_53178_k50 at hR
  refine j_iconst (v := 0) C dJ7_fill_53178_0 (by decide) ?_
  refine j_istore_n C dJ7_fill_53178_1 rfl (by decide) rfl ?_
  refine j_aload_n C dJ7_fill_53178_2 rfl rfl ?_
  refine j_alen (v := 48) (ty := .int) C dJ7_fill_53178_3 (W.lt 50 (by decide)) (sh_50 W) rfl (by decide) ?_
  refine j_istore_n C dJ7_fill_53178_4 rfl (by decide) rfl ?_
  exact j_vl (tJ7_fill_53178_k50_5 W C 2000 a1 0 48 h hP hR) ⟨rfl, rfl, rfl, rfl, trivial⟩
theorem MJ7_fill_53178_k50 {l0 : Launch} {Y : fj_Y} {ad : Nat → Nat} {n : Nat} {S : ph_S} {pr : Nat} (W : WS pr n S) (a1 : Int32) (h : ph_H) (hP : PJ7_fill_53178_k50 a1 h) : MV l0 yJ7_fill_53178 cJ7_fill_53178 4 ({ frames := 0, cells := 0, slots := 0, locals := 0 } : Room) Y ad n S h [.ref (ad 50), .int a1] (fun S' h' => S' = S ∧ h' = FJ7_fill_53178_k50 a1 h) := met_v (by decide) (Nat.le_of_ble_eq_true rfl) (fun X C K => j_vl (tJ7_fill_53178_k50 W C a1 h hP (fun pc lv hd => K _ _ ⟨rfl, rfl⟩ pc lv hd)) ⟨rfl, rfl, trivial⟩)

-- X10_placeOf
def FX10_placeOf (a0 : Int32) (h : ph_H) : Int32 := if (h 39 (a0.toNatClampNeg)) = (-2) then ((h 40 (a0.toNatClampNeg))) else ((h 39 (a0.toNatClampNeg)))
def PX10_placeOf (a0 : Int32) (h : ph_H) : Prop := vp_in a0 301 ∧ (((h 39 (a0.toNatClampNeg)) = (-2) → (vp_in a0 301 ∧ (True))) ∧ (¬ (h 39 (a0.toNatClampNeg)) = (-2) → (vp_in a0 301 ∧ (True))))
set_option maxRecDepth 100000 in
set_option maxHeartbeats 4000000 in
theorem tX10_placeOf {X : fj_X} {Y : fj_Y} {l0 : Launch} {ad : Nat → Nat} {n : Nat} {S : ph_S} {pr : Nat} (W : WS pr n S) (C : FC X Y l0 cX10_placeOf 2 RX10 ({ frames := 0, cells := 0, slots := 0, locals := 0 } : Room) 0 0 (some .int)) (a0 : Int32) (h : ph_H) (hP : PX10_placeOf a0 h) (hR : RETp X Y ad n S h cX10_placeOf (FX10_placeOf a0 h)) : FJ X Y ad n S h 0 [(0, .ref (ad 35)), (1, .int a0)] [] := by
  unfold PX10_placeOf at hP
  unfold FX10_placeOf at hR
  refine j_aload_n C dX10_placeOf_0 rfl rfl ?_
  refine gCRX10_21 C dX10_placeOf_1 (W.lt 35 (by decide)) (sh_35 W) rfl ?_
  refine j_iload_n C dX10_placeOf_4 rfl rfl ?_
  obtain ⟨p3, hP⟩ := hP
  refine j_iald (k := 39) (v := (h 39 (a0.toNatClampNeg))) C dX10_placeOf_5 (W.lt 39 (by decide)) (sh_39 W) p3 rfl ?_
  refine j_bipush (v := (-2)) C dX10_placeOf_6 (by decide) ?_
  refine j_icmp_eq (tgt := 20) C dX10_placeOf_8 (by decide) (fun c0 => ?_) (fun c0 => ?_)
  · have hP := hP.1 c0
    rw [if_pos c0] at hR
    refine j_aload_n C dX10_placeOf_20 rfl rfl ?_
    refine gCRX10_24 C dX10_placeOf_21 (W.lt 35 (by decide)) (sh_35 W) rfl ?_
    refine j_iload_n C dX10_placeOf_24 rfl rfl ?_
    obtain ⟨p3, hP⟩ := hP
    refine j_iald (k := 40) (v := (h 40 (a0.toNatClampNeg))) C dX10_placeOf_25 (W.lt 40 (by decide)) (sh_40 W) p3 rfl ?_
    exact hR _ _ dX10_placeOf_26
  · have hP := hP.2 c0
    rw [if_neg c0] at hR
    refine j_aload_n C dX10_placeOf_11 rfl rfl ?_
    refine gCRX10_21 C dX10_placeOf_12 (W.lt 35 (by decide)) (sh_35 W) rfl ?_
    refine j_iload_n C dX10_placeOf_15 rfl rfl ?_
    obtain ⟨p3, hP⟩ := hP
    refine j_iald (k := 39) (v := (h 39 (a0.toNatClampNeg))) C dX10_placeOf_16 (W.lt 39 (by decide)) (sh_39 W) p3 rfl ?_
    refine j_goto (tgt := 26) C dX10_placeOf_17 (by decide) ?_
    exact hR _ _ dX10_placeOf_26
theorem MX10_placeOf {l0 : Launch} {Y : fj_Y} {ad : Nat → Nat} {n : Nat} {S : ph_S} {pr : Nat} (W : WS pr n S) (a0 : Int32) (h : ph_H) (hP : PX10_placeOf a0 h) : MI l0 yX10_placeOf cX10_placeOf 2 (some .int) ({ frames := 0, cells := 0, slots := 0, locals := 0 } : Room) Y ad n S h [.ref (ad 35), .int a0] (fun r S' h' => S' = S ∧ h' = h ∧ r = FX10_placeOf a0 h) := met_i (by decide) (Nat.le_of_ble_eq_true rfl) (fun _ _ _ _ => rfl) (fun X C K => j_vl (tX10_placeOf W C a0 h hP (fun pc lv hd => K _ _ _ ⟨rfl, rfl, rfl⟩ pc lv hd)) ⟨rfl, rfl, trivial⟩)

-- X4_isRace
def FX4_isRace_76  (x1 : Int32) (x2 : Int32) (h : ph_H) : Int32 := if (FX4_isAhead x1 x2 h) = 0 then (1) else (0)
def PX4_isRace_76  (x1 : Int32) (x2 : Int32) (h : ph_H) : Prop := (PX4_isAhead x1 x2 h) ∧ (((FX4_isAhead x1 x2 h) = 0 → (True)) ∧ (¬ (FX4_isAhead x1 x2 h) = 0 → (True)))
set_option maxRecDepth 100000 in
set_option maxHeartbeats 4000000 in
theorem tX4_isRace_76 {X : fj_X} {Y : fj_Y} {l0 : Launch} {ad : Nat → Nat} {n : Nat} {S : ph_S} {pr : Nat} (W : WS pr n S) (C : FC X Y l0 cX4_isRace 4 RX4 ({ frames := 1, cells := 0, slots := 0, locals := 22 } : Room) 0 0 (some .boolean)) (h : ph_H) (x1 : Int32) (x2 : Int32) (hP : PX4_isRace_76  x1 x2 h) (hR : RETq X Y ad n S h cX4_isRace (FX4_isRace_76  x1 x2 h)) : FJ X Y ad n S h 76 [(0, .ref (ad 47)), (1, .int x1), (2, .int x2)] [] := by
  unfold PX4_isRace_76 at hP
  unfold FX4_isRace_76 at hR
  refine j_aload_n C dX4_isRace_76 rfl rfl ?_
  refine j_iload_n C dX4_isRace_77 rfl rfl ?_
  refine j_iload_n C dX4_isRace_78 rfl rfl ?_
  obtain ⟨p3, hP⟩ := hP
  refine j_callV C (MX4_isAhead W x1 x2 h p3) dX4_isRace_79 (CKX4_isAhead (by decide)) ⟨rfl, rfl⟩ lk_RX4_86 in_X4_isAhead se_X4_isAhead (W.lt 47 (by decide)) (sh_47 W) rfl rfl (Nat.le_of_ble_eq_true rfl) ?_
  intro r S' h' hq
  obtain ⟨e1, hh, e3, hb5⟩ := hq
  rw [e1, hh, e3]
  refine j_if_ne (tgt := 89) C dX4_isRace_82 (by decide) (fun c0 => ?_) (fun c0 => ?_)
  · have hP := hP.2 c0
    rw [if_neg c0] at hR
    refine j_iconst (v := 0) C dX4_isRace_89 (by decide) ?_
    exact hR bo_0 _ _ dX4_isRace_90
  · have hP := hP.1 c0
    rw [if_pos c0] at hR
    refine j_iconst (v := 1) C dX4_isRace_85 (by decide) ?_
    refine j_goto (tgt := 90) C dX4_isRace_86 (by decide) ?_
    exact hR bo_1 _ _ dX4_isRace_90
def FX4_isRace (a0 : Int32) (a1 : Int32) (h : ph_H) : Int32 := if (FX10_placeOf a1 h) = (-2) then (0) else (if (FX10_placeOf a0 h) = (FX10_placeOf a1 h) then (if (h 36 (a0.toNatClampNeg)) = (h 36 (a1.toNatClampNeg)) then (0) else (if (h 40 (a0.toNatClampNeg)) = (FX10_placeOf a1 h) then (FX4_isRace_76  a0 a1 h) else (if (h 40 (a1.toNatClampNeg)) = (FX10_placeOf a1 h) then (FX4_isRace_76  a0 a1 h) else (0)))) else (0))
def PX4_isRace (a0 : Int32) (a1 : Int32) (h : ph_H) : Prop := (PX10_placeOf a1 h) ∧ (((FX10_placeOf a1 h) = (-2) → (True)) ∧ (¬ (FX10_placeOf a1 h) = (-2) → ((PX10_placeOf a0 h) ∧ (((FX10_placeOf a0 h) = (FX10_placeOf a1 h) → (vp_in a0 301 ∧ (vp_in a1 301 ∧ (((h 36 (a0.toNatClampNeg)) = (h 36 (a1.toNatClampNeg)) → (True)) ∧ (¬ (h 36 (a0.toNatClampNeg)) = (h 36 (a1.toNatClampNeg)) → (vp_in a0 301 ∧ (((h 40 (a0.toNatClampNeg)) = (FX10_placeOf a1 h) → (PX4_isRace_76  a0 a1 h)) ∧ (¬ (h 40 (a0.toNatClampNeg)) = (FX10_placeOf a1 h) → (vp_in a1 301 ∧ (((h 40 (a1.toNatClampNeg)) = (FX10_placeOf a1 h) → (PX4_isRace_76  a0 a1 h)) ∧ (¬ (h 40 (a1.toNatClampNeg)) = (FX10_placeOf a1 h) → (True)))))))))))) ∧ (¬ (FX10_placeOf a0 h) = (FX10_placeOf a1 h) → (True))))))
set_option maxRecDepth 100000 in
set_option maxHeartbeats 4000000 in
theorem tX4_isRace {X : fj_X} {Y : fj_Y} {l0 : Launch} {ad : Nat → Nat} {n : Nat} {S : ph_S} {pr : Nat} (W : WS pr n S) (C : FC X Y l0 cX4_isRace 4 RX4 ({ frames := 1, cells := 0, slots := 0, locals := 22 } : Room) 0 0 (some .boolean)) (a0 : Int32) (a1 : Int32) (h : ph_H) (hP : PX4_isRace a0 a1 h) (hR : RETq X Y ad n S h cX4_isRace (FX4_isRace a0 a1 h)) : FJ X Y ad n S h 0 [(0, .ref (ad 47)), (1, .int a0), (2, .int a1)] [] := by
  unfold PX4_isRace at hP
  unfold FX4_isRace at hR
  refine j_aload_n C dX4_isRace_0 rfl rfl ?_
  refine gCRX4_24 C dX4_isRace_1 (W.lt 47 (by decide)) (sh_47 W) rfl ?_
  refine j_iload_n C dX4_isRace_4 rfl rfl ?_
  obtain ⟨p3, hP⟩ := hP
  refine j_callV C (MX10_placeOf W a1 h p3) dX4_isRace_5 (CKX10_placeOf (by decide)) ⟨rfl, rfl⟩ lk_RX4_80 in_X10_placeOf se_X10_placeOf (W.lt 35 (by decide)) (sh_35 W) rfl rfl (Nat.le_of_ble_eq_true rfl) ?_
  intro r S' h' hq
  obtain ⟨e1, hh, e3⟩ := hq
  rw [e1, hh, e3]
  refine j_istore_n C dX4_isRace_8 rfl (by decide) rfl ?_
  refine j_iload_n C dX4_isRace_9 rfl rfl ?_
  refine j_bipush (v := (-2)) C dX4_isRace_10 (by decide) ?_
  refine j_icmp_eq (tgt := 48) C dX4_isRace_12 (by decide) (fun c0 => ?_) (fun c0 => ?_)
  · have hP := hP.1 c0
    rw [if_pos c0] at hR
    refine j_iconst (v := 0) C dX4_isRace_48 (by decide) ?_
    exact hR bo_0 _ _ dX4_isRace_49
  · have hP := hP.2 c0
    rw [if_neg c0] at hR
    refine j_aload_n C dX4_isRace_15 rfl rfl ?_
    refine gCRX4_24 C dX4_isRace_16 (W.lt 47 (by decide)) (sh_47 W) rfl ?_
    refine j_iload_n C dX4_isRace_19 rfl rfl ?_
    obtain ⟨p3, hP⟩ := hP
    refine j_callV C (MX10_placeOf W a0 h p3) dX4_isRace_20 (CKX10_placeOf (by decide)) ⟨rfl, rfl⟩ lk_RX4_80 in_X10_placeOf se_X10_placeOf (W.lt 35 (by decide)) (sh_35 W) rfl rfl (Nat.le_of_ble_eq_true rfl) ?_
    intro r S' h' hq
    obtain ⟨e1, hh, e3⟩ := hq
    rw [e1, hh, e3]
    refine j_iload_n C dX4_isRace_23 rfl rfl ?_
    refine j_icmp_ne (tgt := 48) C dX4_isRace_24 (by decide) (fun c1 => ?_) (fun c1 => ?_)
    · have hP := hP.2 c1
      rw [if_neg c1] at hR
      refine j_iconst (v := 0) C dX4_isRace_48 (by decide) ?_
      exact hR bo_0 _ _ dX4_isRace_49
    · have hP := hP.1 c1
      rw [if_pos c1] at hR
      refine j_aload_n C dX4_isRace_27 rfl rfl ?_
      refine gCRX4_24 C dX4_isRace_28 (W.lt 47 (by decide)) (sh_47 W) rfl ?_
      refine gCRX4_55 C dX4_isRace_31 (W.lt 35 (by decide)) (sh_35 W) rfl ?_
      refine j_iload_n C dX4_isRace_34 rfl rfl ?_
      obtain ⟨p4, hP⟩ := hP
      refine j_iald (k := 36) (v := (h 36 (a0.toNatClampNeg))) C dX4_isRace_35 (W.lt 36 (by decide)) (sh_36 W) p4 rfl ?_
      refine j_aload_n C dX4_isRace_36 rfl rfl ?_
      refine gCRX4_24 C dX4_isRace_37 (W.lt 47 (by decide)) (sh_47 W) rfl ?_
      refine gCRX4_55 C dX4_isRace_40 (W.lt 35 (by decide)) (sh_35 W) rfl ?_
      refine j_iload_n C dX4_isRace_43 rfl rfl ?_
      obtain ⟨p10, hP⟩ := hP
      refine j_iald (k := 36) (v := (h 36 (a1.toNatClampNeg))) C dX4_isRace_44 (W.lt 36 (by decide)) (sh_36 W) p10 rfl ?_
      refine j_icmp_ne (tgt := 50) C dX4_isRace_45 (by decide) (fun c2 => ?_) (fun c2 => ?_)
      · have hP := hP.2 c2
        rw [if_neg c2] at hR
        refine j_aload_n C dX4_isRace_50 rfl rfl ?_
        refine gCRX4_24 C dX4_isRace_51 (W.lt 47 (by decide)) (sh_47 W) rfl ?_
        refine gCRX4_83 C dX4_isRace_54 (W.lt 35 (by decide)) (sh_35 W) rfl ?_
        refine j_iload_n C dX4_isRace_57 rfl rfl ?_
        obtain ⟨p4, hP⟩ := hP
        refine j_iald (k := 40) (v := (h 40 (a0.toNatClampNeg))) C dX4_isRace_58 (W.lt 40 (by decide)) (sh_40 W) p4 rfl ?_
        refine j_iload_n C dX4_isRace_59 rfl rfl ?_
        refine j_icmp_eq (tgt := 76) C dX4_isRace_60 (by decide) (fun c3 => ?_) (fun c3 => ?_)
        · have hP := hP.1 c3
          rw [if_pos c3] at hR
          exact j_vl (tX4_isRace_76 W C h a0 a1 hP hR) ⟨rfl, rfl, rfl, trivial⟩
        · have hP := hP.2 c3
          rw [if_neg c3] at hR
          refine j_aload_n C dX4_isRace_63 rfl rfl ?_
          refine gCRX4_24 C dX4_isRace_64 (W.lt 47 (by decide)) (sh_47 W) rfl ?_
          refine gCRX4_83 C dX4_isRace_67 (W.lt 35 (by decide)) (sh_35 W) rfl ?_
          refine j_iload_n C dX4_isRace_70 rfl rfl ?_
          obtain ⟨p4, hP⟩ := hP
          refine j_iald (k := 40) (v := (h 40 (a1.toNatClampNeg))) C dX4_isRace_71 (W.lt 40 (by decide)) (sh_40 W) p4 rfl ?_
          refine j_iload_n C dX4_isRace_72 rfl rfl ?_
          refine j_icmp_ne (tgt := 89) C dX4_isRace_73 (by decide) (fun c4 => ?_) (fun c4 => ?_)
          · have hP := hP.2 c4
            rw [if_neg c4] at hR
            refine j_iconst (v := 0) C dX4_isRace_89 (by decide) ?_
            exact hR bo_0 _ _ dX4_isRace_90
          · have hP := hP.1 c4
            rw [if_pos c4] at hR
            exact j_vl (tX4_isRace_76 W C h a0 a1 hP hR) ⟨rfl, rfl, rfl, trivial⟩
      · have hP := hP.1 c2
        rw [if_pos c2] at hR
        refine j_iconst (v := 0) C dX4_isRace_48 (by decide) ?_
        exact hR bo_0 _ _ dX4_isRace_49
theorem MX4_isRace {l0 : Launch} {Y : fj_Y} {ad : Nat → Nat} {n : Nat} {S : ph_S} {pr : Nat} (W : WS pr n S) (a0 : Int32) (a1 : Int32) (h : ph_H) (hP : PX4_isRace a0 a1 h) : MI l0 yX4_isRace cX4_isRace 4 (some .boolean) ({ frames := 1, cells := 0, slots := 0, locals := 22 } : Room) Y ad n S h [.ref (ad 47), .int a0, .int a1] (fun r S' h' => S' = S ∧ h' = h ∧ r = FX4_isRace a0 a1 h ∧ bo r) := met_i (by decide) (Nat.le_of_ble_eq_true rfl) (fun _ _ _ q => bo_n q.2.2.2) (fun X C K => j_vl (tX4_isRace W C a0 a1 h hP (fun b pc lv hd => K _ _ _ ⟨rfl, rfl, rfl, b⟩ pc lv hd)) ⟨rfl, rfl, rfl, trivial⟩)
