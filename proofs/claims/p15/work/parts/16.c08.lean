-- X11_play
def FX11_play_54  (x1 : Int32) (h : ph_H) : Int32 × ph_H := (((FX11_goByRecordc1 x1 h).2 0 11), (hs (FX11_goByRecordc1 x1 h).2 0 12 ((FX11_goByRecordc1 x1 h).1)))
def PX11_play_54  (x1 : Int32) (h : ph_H) : Prop := (PX11_goByRecordc1 x1 h) ∧ (True)
set_option maxRecDepth 100000 in
set_option maxHeartbeats 4000000 in
theorem tX11_play_54 {X : fj_X} {Y : fj_Y} {l0 : Launch} {ad : Nat → Nat} {n : Nat} {S : ph_S} (W : WS 1 n S) (C : FC X Y l0 cX11_play 3 RX11 ({ frames := 5, cells := 0, slots := 0, locals := 123 } : Room) 0 0 (some .int)) (x1 : Int32) (h : ph_H) (hP : PX11_play_54  x1 h) (hR : RETi X Y ad n S cX11_play (FX11_play_54  x1 h)) : FJ X Y ad n S h 54 [(0, .ref (ad 0)), (1, .int x1)] [] := by
  unfold PX11_play_54 at hP
  unfold FX11_play_54 at hR
  refine j_aload_n C dX11_play_54 rfl rfl ?_
  refine j_aload_n C dX11_play_55 rfl rfl ?_
  refine j_iload_n C dX11_play_56 rfl rfl ?_
  obtain ⟨p3, hP⟩ := hP
  refine j_callV C (MX11_goByRecordc1 W x1 h p3) dX11_play_57 (CKX11_goByRecord (by decide)) ⟨rfl, rfl⟩ lk_RX11_172 in_X11_goByRecord se_X11_goByRecord (W.lt 0 (by decide)) (sh_0 W) rfl rfl (Nat.le_of_ble_eq_true rfl) ?_
  intro r S' h' hq
  obtain ⟨e1, e2, e3⟩ := hq
  rw [e1, e2, e3]
  refine pCRX11_62 C dX11_play_60 (W.lt 0 (by decide)) (sh_0 W) rfl ?_
  refine j_aload_n C dX11_play_63 rfl rfl ?_
  refine gCRX11_176 (v := ((FX11_goByRecordc1 x1 h).2 0 11)) C dX11_play_64 (W.lt 0 (by decide)) (sh_0 W) rfl (hz_i (by decide)) ?_
  exact RETi_u hR _ _ dX11_play_67
def FX11_play (a0 : Int32) (a1 : Int32) (h : ph_H) : Int32 × ph_H := if (h 0 8) = 0 then (((-2), h)) else (if a0 < 0 then (((-1), h)) else (if (h 35 12) < a0 then (((-1), h)) else (if a1 < 0 then (((-1), h)) else (if a1 ≤ (h 35 16) then (FX11_play_54  a0 (FX3_begin_on a1 h)) else (((-1), h))))))
def PX11_play (a0 : Int32) (a1 : Int32) (h : ph_H) : Prop := ((h 0 8) = 0 → (True)) ∧ (¬ (h 0 8) = 0 → ((a0 < 0 → (True)) ∧ (¬ a0 < 0 → (((h 35 12) < a0 → (True)) ∧ (¬ (h 35 12) < a0 → ((a1 < 0 → (True)) ∧ (¬ a1 < 0 → ((a1 ≤ (h 35 16) → ((PX3_begin_on a1 h) ∧ (PX11_play_54  a0 (FX3_begin_on a1 h)))) ∧ (¬ a1 ≤ (h 35 16) → (True))))))))))
set_option maxRecDepth 100000 in
set_option maxHeartbeats 4000000 in
theorem tX11_play {X : fj_X} {Y : fj_Y} {l0 : Launch} {ad : Nat → Nat} {n : Nat} {S : ph_S} {pr : Nat} (W : WS pr n S) (C : FC X Y l0 cX11_play 3 RX11 ({ frames := 5, cells := 0, slots := 0, locals := 123 } : Room) 0 0 (some .int)) (a0 : Int32) (a1 : Int32) (h : ph_H) (hP : PX11_play a0 a1 h) (hR : ∀ S', Sp S S' → RETi X Y ad n S' cX11_play (FX11_play a0 a1 h)) : FJ X Y ad n S h 0 [(0, .ref (ad 0)), (1, .int a0), (2, .int a1)] [] := by
  unfold PX11_play at hP
  unfold FX11_play at hR
  refine j_aload_n C dX11_play_0 rfl rfl ?_
  refine gCRX11_116 (v := (h 0 8)) C dX11_play_1 (W.lt 0 (by decide)) (sh_0 W) rfl rfl ?_
  refine j_if_ne (tgt := 10) C dX11_play_4 (by decide) (fun c0 => ?_) (fun c0 => ?_)
  · have hP := hP.2 c0
    rw [if_neg c0] at hR
    refine j_iload_n C dX11_play_10 rfl rfl ?_
    refine j_if_lt (tgt := 40) C dX11_play_11 (by decide) (fun c1 => ?_) (fun c1 => ?_)
    · have hP := hP.1 c1
      rw [if_pos c1] at hR
      refine j_iconst (v := (-1)) C dX11_play_40 (by decide) ?_
      exact RETi_u (hR _ (Or.inl rfl)) _ _ dX11_play_41
    · have hP := hP.2 c1
      rw [if_neg c1] at hR
      refine j_iload_n C dX11_play_14 rfl rfl ?_
      refine j_aload_n C dX11_play_15 rfl rfl ?_
      refine gCRX11_34 C dX11_play_16 (W.lt 0 (by decide)) (sh_0 W) rfl ?_
      refine gCRX11_142 (v := (h 35 12)) C dX11_play_19 (W.lt 35 (by decide)) (sh_35 W) rfl rfl ?_
      refine j_icmp_gt (tgt := 40) C dX11_play_22 (by decide) (fun c2 => ?_) (fun c2 => ?_)
      · have hP := hP.1 c2
        rw [if_pos c2] at hR
        refine j_iconst (v := (-1)) C dX11_play_40 (by decide) ?_
        exact RETi_u (hR _ (Or.inl rfl)) _ _ dX11_play_41
      · have hP := hP.2 c2
        rw [if_neg c2] at hR
        refine j_iload_n C dX11_play_25 rfl rfl ?_
        refine j_if_lt (tgt := 40) C dX11_play_26 (by decide) (fun c3 => ?_) (fun c3 => ?_)
        · have hP := hP.1 c3
          rw [if_pos c3] at hR
          refine j_iconst (v := (-1)) C dX11_play_40 (by decide) ?_
          exact RETi_u (hR _ (Or.inl rfl)) _ _ dX11_play_41
        · have hP := hP.2 c3
          rw [if_neg c3] at hR
          refine j_iload_n C dX11_play_29 rfl rfl ?_
          refine j_aload_n C dX11_play_30 rfl rfl ?_
          refine gCRX11_34 C dX11_play_31 (W.lt 0 (by decide)) (sh_0 W) rfl ?_
          refine gCRX11_145 (v := (h 35 16)) C dX11_play_34 (W.lt 35 (by decide)) (sh_35 W) rfl rfl ?_
          refine j_icmp_le (tgt := 42) C dX11_play_37 (by decide) (fun c4 => ?_) (fun c4 => ?_)
          · have hP := hP.1 c4
            rw [if_pos c4] at hR
            refine j_aload_n C dX11_play_42 rfl rfl ?_
            refine gCRX11_28 C dX11_play_43 (W.lt 0 (by decide)) (sh_0 W) rfl ?_
            refine j_aload_n C dX11_play_46 rfl rfl ?_
            refine gCRX11_12 C dX11_play_47 (W.lt 0 (by decide)) (sh_0 W) rfl ?_
            refine j_iload_n C dX11_play_50 rfl rfl ?_
            obtain ⟨p5, hP⟩ := hP
            refine j_callVv C (MX3_begin_on W a1 h p5) dX11_play_51 (CKX3_begin (by decide)) ⟨rfl, rfl⟩ lk_RX11_105 in_X3_begin se_X3_begin (W.lt 25 (by decide)) (sh_25 W) rfl rfl (Nat.le_of_ble_eq_true rfl) ?_
            intro S' h' hq
            obtain ⟨e1, e2⟩ := hq
            rw [e1, e2]
            have W := spr_W (p := 1) W
            exact j_vl (tX11_play_54 W C  a0 (FX3_begin_on a1 h) hP (hR _ (Or.inr (Or.inl rfl)))) ⟨rfl, rfl, trivial⟩
          · have hP := hP.2 c4
            rw [if_neg c4] at hR
            refine j_iconst (v := (-1)) C dX11_play_40 (by decide) ?_
            exact RETi_u (hR _ (Or.inl rfl)) _ _ dX11_play_41
  · have hP := hP.1 c0
    rw [if_pos c0] at hR
    refine j_bipush (v := (-2)) C dX11_play_7 (by decide) ?_
    exact RETi_u (hR _ (Or.inl rfl)) _ _ dX11_play_9
theorem MX11_play {l0 : Launch} {Y : fj_Y} {ad : Nat → Nat} {n : Nat} {S : ph_S} {pr : Nat} (W : WS pr n S) (a0 : Int32) (a1 : Int32) (h : ph_H) (hP : PX11_play a0 a1 h) : MI l0 yX11_play cX11_play 3 (some .int) ({ frames := 5, cells := 0, slots := 0, locals := 123 } : Room) Y ad n S h [.ref (ad 0), .int a0, .int a1] (fun r S' h' => Sp S S' ∧ h' = (FX11_play a0 a1 h).2 ∧ r = (FX11_play a0 a1 h).1) := met_i (by decide) (Nat.le_of_ble_eq_true rfl) (fun _ _ _ _ => rfl) (fun X C K => j_vl (tX11_play W C a0 a1 h hP (fun S' hs' => fun pc lv hd => K _ _ _ ⟨hs', rfl, rfl⟩ pc lv hd)) ⟨rfl, rfl, rfl, trivial⟩)

-- X11_ended
def FX11_ended (h : ph_H) : Int32 := (h 0 12)
def PX11_ended (h : ph_H) : Prop := True
set_option maxRecDepth 100000 in
set_option maxHeartbeats 4000000 in
theorem tX11_ended {X : fj_X} {Y : fj_Y} {l0 : Launch} {ad : Nat → Nat} {n : Nat} {S : ph_S} {pr : Nat} (W : WS pr n S) (C : FC X Y l0 cX11_ended 1 RX11 ({ frames := 0, cells := 0, slots := 0, locals := 0 } : Room) 0 0 (some .int)) (h : ph_H) (hP : PX11_ended h) (hR : RETp X Y ad n S h cX11_ended (FX11_ended h)) : FJ X Y ad n S h 0 [(0, .ref (ad 0))] [] := by
  unfold PX11_ended at hP
  unfold FX11_ended at hR
  refine j_aload_n C dX11_ended_0 rfl rfl ?_
  refine gCRX11_62 (v := (h 0 12)) C dX11_ended_1 (W.lt 0 (by decide)) (sh_0 W) rfl rfl ?_
  exact hR _ _ dX11_ended_4
theorem MX11_ended {l0 : Launch} {Y : fj_Y} {ad : Nat → Nat} {n : Nat} {S : ph_S} {pr : Nat} (W : WS pr n S) (h : ph_H) (hP : PX11_ended h) : MI l0 yX11_ended cX11_ended 1 (some .int) ({ frames := 0, cells := 0, slots := 0, locals := 0 } : Room) Y ad n S h [.ref (ad 0)] (fun r S' h' => S' = S ∧ h' = h ∧ r = FX11_ended h) := met_i (by decide) (Nat.le_of_ble_eq_true rfl) (fun _ _ _ _ => rfl) (fun X C K => j_vl (tX11_ended W C h hP (fun pc lv hd => K _ _ _ ⟨rfl, rfl, rfl⟩ pc lv hd)) ⟨rfl, trivial⟩)

-- X11_isMoment
def FX11_isMoment (a0 : Int32) (h : ph_H) : Int32 := if a0 < 0 then (0) else (if (h 35 11) < a0 then (0) else (1))
def PX11_isMoment (a0 : Int32) (h : ph_H) : Prop := (a0 < 0 → (True)) ∧ (¬ a0 < 0 → (((h 35 11) < a0 → (True)) ∧ (¬ (h 35 11) < a0 → (True))))
set_option maxRecDepth 100000 in
set_option maxHeartbeats 4000000 in
theorem tX11_isMoment {X : fj_X} {Y : fj_Y} {l0 : Launch} {ad : Nat → Nat} {n : Nat} {S : ph_S} {pr : Nat} (W : WS pr n S) (C : FC X Y l0 cX11_isMoment 2 RX11 ({ frames := 0, cells := 0, slots := 0, locals := 0 } : Room) 0 0 (some .boolean)) (a0 : Int32) (h : ph_H) (hP : PX11_isMoment a0 h) (hR : RETq X Y ad n S h cX11_isMoment (FX11_isMoment a0 h)) : FJ X Y ad n S h 0 [(0, .ref (ad 0)), (1, .int a0)] [] := by
  unfold PX11_isMoment at hP
  unfold FX11_isMoment at hR
  refine j_iload_n C dX11_isMoment_0 rfl rfl ?_
  refine j_if_lt (tgt := 19) C dX11_isMoment_1 (by decide) (fun c0 => ?_) (fun c0 => ?_)
  · have hP := hP.1 c0
    rw [if_pos c0] at hR
    refine j_iconst (v := 0) C dX11_isMoment_19 (by decide) ?_
    exact hR bo_0 _ _ dX11_isMoment_20
  · have hP := hP.2 c0
    rw [if_neg c0] at hR
    refine j_iload_n C dX11_isMoment_4 rfl rfl ?_
    refine j_aload_n C dX11_isMoment_5 rfl rfl ?_
    refine gCRX11_34 C dX11_isMoment_6 (W.lt 0 (by decide)) (sh_0 W) rfl ?_
    refine gCRX11_120 (v := (h 35 11)) C dX11_isMoment_9 (W.lt 35 (by decide)) (sh_35 W) rfl rfl ?_
    refine j_icmp_gt (tgt := 19) C dX11_isMoment_12 (by decide) (fun c1 => ?_) (fun c1 => ?_)
    · have hP := hP.1 c1
      rw [if_pos c1] at hR
      refine j_iconst (v := 0) C dX11_isMoment_19 (by decide) ?_
      exact hR bo_0 _ _ dX11_isMoment_20
    · have hP := hP.2 c1
      rw [if_neg c1] at hR
      refine j_iconst (v := 1) C dX11_isMoment_15 (by decide) ?_
      refine j_goto (tgt := 20) C dX11_isMoment_16 (by decide) ?_
      exact hR bo_1 _ _ dX11_isMoment_20
theorem MX11_isMoment {l0 : Launch} {Y : fj_Y} {ad : Nat → Nat} {n : Nat} {S : ph_S} {pr : Nat} (W : WS pr n S) (a0 : Int32) (h : ph_H) (hP : PX11_isMoment a0 h) : MI l0 yX11_isMoment cX11_isMoment 2 (some .boolean) ({ frames := 0, cells := 0, slots := 0, locals := 0 } : Room) Y ad n S h [.ref (ad 0), .int a0] (fun r S' h' => S' = S ∧ h' = h ∧ r = FX11_isMoment a0 h ∧ bo r) := met_i (by decide) (Nat.le_of_ble_eq_true rfl) (fun _ _ _ q => bo_n q.2.2.2) (fun X C K => j_vl (tX11_isMoment W C a0 h hP (fun b pc lv hd => K _ _ _ ⟨rfl, rfl, rfl, b⟩ pc lv hd)) ⟨rfl, rfl, trivial⟩)

-- X11_to
def FX11_to (a0 : Int32) (h : ph_H) : Int32 × ph_H := if (h 0 8) = 0 then (((-2), h)) else (if (FX11_isMoment a0 h) = 0 then (((-1), h)) else ((a0, (hs h 0 10 a0))))
def PX11_to (a0 : Int32) (h : ph_H) : Prop := ((h 0 8) = 0 → (True)) ∧ (¬ (h 0 8) = 0 → ((PX11_isMoment a0 h) ∧ (((FX11_isMoment a0 h) = 0 → (True)) ∧ (¬ (FX11_isMoment a0 h) = 0 → (True)))))
set_option maxRecDepth 100000 in
set_option maxHeartbeats 4000000 in
theorem tX11_to {X : fj_X} {Y : fj_Y} {l0 : Launch} {ad : Nat → Nat} {n : Nat} {S : ph_S} {pr : Nat} (W : WS pr n S) (C : FC X Y l0 cX11_to 2 RX11 ({ frames := 1, cells := 0, slots := 0, locals := 21 } : Room) 0 0 (some .int)) (a0 : Int32) (h : ph_H) (hP : PX11_to a0 h) (hR : RETi X Y ad n S cX11_to (FX11_to a0 h)) : FJ X Y ad n S h 0 [(0, .ref (ad 0)), (1, .int a0)] [] := by
  unfold PX11_to at hP
  unfold FX11_to at hR
  refine j_aload_n C dX11_to_0 rfl rfl ?_
  refine gCRX11_116 (v := (h 0 8)) C dX11_to_1 (W.lt 0 (by decide)) (sh_0 W) rfl rfl ?_
  refine j_if_ne (tgt := 10) C dX11_to_4 (by decide) (fun c0 => ?_) (fun c0 => ?_)
  · have hP := hP.2 c0
    rw [if_neg c0] at hR
    refine j_aload_n C dX11_to_10 rfl rfl ?_
    refine j_iload_n C dX11_to_11 rfl rfl ?_
    obtain ⟨p2, hP⟩ := hP
    refine j_callV C (MX11_isMoment W a0 h p2) dX11_to_12 (CKX11_isMoment (by decide)) ⟨rfl, rfl⟩ lk_RX11_179 in_X11_isMoment se_X11_isMoment (W.lt 0 (by decide)) (sh_0 W) rfl rfl (Nat.le_of_ble_eq_true rfl) ?_
    intro r S' h' hq
    obtain ⟨e1, hh, e3, hb4⟩ := hq
    rw [e1, hh, e3]
    refine j_if_ne (tgt := 20) C dX11_to_15 (by decide) (fun c1 => ?_) (fun c1 => ?_)
    · have hP := hP.2 c1
      rw [if_neg c1] at hR
      refine j_aload_n C dX11_to_20 rfl rfl ?_
      refine j_iload_n C dX11_to_21 rfl rfl ?_
      refine pCRX11_126 C dX11_to_22 (W.lt 0 (by decide)) (sh_0 W) rfl ?_
      refine j_aload_n C dX11_to_25 rfl rfl ?_
      refine gCRX11_126 (v := a0) C dX11_to_26 (W.lt 0 (by decide)) (sh_0 W) rfl (hz_e) ?_
      exact RETi_u hR _ _ dX11_to_29
    · have hP := hP.1 c1
      rw [if_pos c1] at hR
      refine j_iconst (v := (-1)) C dX11_to_18 (by decide) ?_
      exact RETi_u hR _ _ dX11_to_19
  · have hP := hP.1 c0
    rw [if_pos c0] at hR
    refine j_bipush (v := (-2)) C dX11_to_7 (by decide) ?_
    exact RETi_u hR _ _ dX11_to_9
theorem MX11_to {l0 : Launch} {Y : fj_Y} {ad : Nat → Nat} {n : Nat} {S : ph_S} {pr : Nat} (W : WS pr n S) (a0 : Int32) (h : ph_H) (hP : PX11_to a0 h) : MI l0 yX11_to cX11_to 2 (some .int) ({ frames := 1, cells := 0, slots := 0, locals := 21 } : Room) Y ad n S h [.ref (ad 0), .int a0] (fun r S' h' => S' = S ∧ h' = (FX11_to a0 h).2 ∧ r = (FX11_to a0 h).1) := met_i (by decide) (Nat.le_of_ble_eq_true rfl) (fun _ _ _ _ => rfl) (fun X C K => j_vl (tX11_to W C a0 h hP (fun pc lv hd => K _ _ _ ⟨rfl, rfl, rfl⟩ pc lv hd)) ⟨rfl, rfl, trivial⟩)

-- X11_back
def FX11_back (a0 : Int32) (h : ph_H) : Int32 × ph_H := if (h 0 8) = 0 then (((-2), h)) else (if a0 < 0 then (((-1), h)) else (if a0 ≤ (h 0 10) then ((((h 0 10) - a0), (hs h 0 10 ((h 0 10) - a0)))) else (((-1), h))))
def PX11_back (a0 : Int32) (h : ph_H) : Prop := ((h 0 8) = 0 → (True)) ∧ (¬ (h 0 8) = 0 → ((a0 < 0 → (True)) ∧ (¬ a0 < 0 → ((a0 ≤ (h 0 10) → (True)) ∧ (¬ a0 ≤ (h 0 10) → (True))))))
set_option maxRecDepth 100000 in
set_option maxHeartbeats 4000000 in
theorem tX11_back {X : fj_X} {Y : fj_Y} {l0 : Launch} {ad : Nat → Nat} {n : Nat} {S : ph_S} {pr : Nat} (W : WS pr n S) (C : FC X Y l0 cX11_back 2 RX11 ({ frames := 0, cells := 0, slots := 0, locals := 0 } : Room) 0 0 (some .int)) (a0 : Int32) (h : ph_H) (hP : PX11_back a0 h) (hR : RETi X Y ad n S cX11_back (FX11_back a0 h)) : FJ X Y ad n S h 0 [(0, .ref (ad 0)), (1, .int a0)] [] := by
  unfold PX11_back at hP
  unfold FX11_back at hR
  refine j_aload_n C dX11_back_0 rfl rfl ?_
  refine gCRX11_116 (v := (h 0 8)) C dX11_back_1 (W.lt 0 (by decide)) (sh_0 W) rfl rfl ?_
  refine j_if_ne (tgt := 10) C dX11_back_4 (by decide) (fun c0 => ?_) (fun c0 => ?_)
  · have hP := hP.2 c0
    rw [if_neg c0] at hR
    refine j_iload_n C dX11_back_10 rfl rfl ?_
    refine j_if_lt (tgt := 22) C dX11_back_11 (by decide) (fun c1 => ?_) (fun c1 => ?_)
    · have hP := hP.1 c1
      rw [if_pos c1] at hR
      refine j_iconst (v := (-1)) C dX11_back_22 (by decide) ?_
      exact RETi_u hR _ _ dX11_back_23
    · have hP := hP.2 c1
      rw [if_neg c1] at hR
      refine j_iload_n C dX11_back_14 rfl rfl ?_
      refine j_aload_n C dX11_back_15 rfl rfl ?_
      refine gCRX11_126 (v := (h 0 10)) C dX11_back_16 (W.lt 0 (by decide)) (sh_0 W) rfl rfl ?_
      refine j_icmp_le (tgt := 24) C dX11_back_19 (by decide) (fun c2 => ?_) (fun c2 => ?_)
      · have hP := hP.1 c2
        rw [if_pos c2] at hR
        refine j_aload_n C dX11_back_24 rfl rfl ?_
        refine j_dup C dX11_back_25 rfl ?_
        refine gCRX11_126 (v := (h 0 10)) C dX11_back_26 (W.lt 0 (by decide)) (sh_0 W) rfl rfl ?_
        refine j_iload_n C dX11_back_29 rfl rfl ?_
        refine j_isub C dX11_back_30 ?_
        refine pCRX11_126 C dX11_back_31 (W.lt 0 (by decide)) (sh_0 W) rfl ?_
        refine j_aload_n C dX11_back_34 rfl rfl ?_
        refine gCRX11_126 (v := ((h 0 10) - a0)) C dX11_back_35 (W.lt 0 (by decide)) (sh_0 W) rfl (hz_e) ?_
        exact RETi_u hR _ _ dX11_back_38
      · have hP := hP.2 c2
        rw [if_neg c2] at hR
        refine j_iconst (v := (-1)) C dX11_back_22 (by decide) ?_
        exact RETi_u hR _ _ dX11_back_23
  · have hP := hP.1 c0
    rw [if_pos c0] at hR
    refine j_bipush (v := (-2)) C dX11_back_7 (by decide) ?_
    exact RETi_u hR _ _ dX11_back_9
theorem MX11_back {l0 : Launch} {Y : fj_Y} {ad : Nat → Nat} {n : Nat} {S : ph_S} {pr : Nat} (W : WS pr n S) (a0 : Int32) (h : ph_H) (hP : PX11_back a0 h) : MI l0 yX11_back cX11_back 2 (some .int) ({ frames := 0, cells := 0, slots := 0, locals := 0 } : Room) Y ad n S h [.ref (ad 0), .int a0] (fun r S' h' => S' = S ∧ h' = (FX11_back a0 h).2 ∧ r = (FX11_back a0 h).1) := met_i (by decide) (Nat.le_of_ble_eq_true rfl) (fun _ _ _ _ => rfl) (fun X C K => j_vl (tX11_back W C a0 h hP (fun pc lv hd => K _ _ _ ⟨rfl, rfl, rfl⟩ pc lv hd)) ⟨rfl, rfl, trivial⟩)

-- X11_replay_s
def FX11_replay_s_33 (L3 : Int32 → Int32 → ph_H → ph_H) (x3 : Int32) (x4 : Int32) (s0 : Int32) (h : ph_H) : ph_H := L3 x3 (x4 + 1) h
def PX11_replay_s_33 (LP3 : Int32 → Int32 → ph_H → Prop) (x3 : Int32) (x4 : Int32) (s0 : Int32) (h : ph_H) : Prop := LP3 x3 (x4 + 1) h
set_option maxRecDepth 100000 in
set_option maxHeartbeats 4000000 in
theorem tX11_replay_s_33 {X : fj_X} {Y : fj_Y} {l0 : Launch} {ad : Nat → Nat} {n : Nat} {S : ph_S} {pr : Nat} (W : WS pr n S) (C : FC X Y l0 cX11_replay 5 RX11 ({ frames := 4, cells := 0, slots := 0, locals := 98 } : Room) 0 0 none) (L3 : Int32 → Int32 → ph_H → ph_H) (LP3 : Int32 → Int32 → ph_H → Prop) (hL3 : ∀ (x3 : Int32) (x4 : Int32) (h : ph_H), LP3 x3 x4 h → RETv X Y ad n S cX11_replay (L3 x3 x4 h) → FJ X Y ad n S h 3 [(0, .ref (ad 0)), (1, .ref (ad 15)), (3, .int x3), (4, .int x4)] []) (x3 : Int32) (x4 : Int32) (s0 : Int32) (h : ph_H) (hP : PX11_replay_s_33 LP3 x3 x4 s0 h) (hR : RETv X Y ad n S cX11_replay (FX11_replay_s_33 L3 x3 x4 s0 h)) : FJ X Y ad n S h 33 [(0, .ref (ad 0)), (1, .ref (ad 15)), (3, .int x3), (4, .int x4)] [.int s0] := by
  unfold PX11_replay_s_33 at hP
  unfold FX11_replay_s_33 at hR
  refine j_pop C dX11_replay_33 rfl ?_
  refine j_iinc (v := (x4 + 1)) C dX11_replay_34 rfl rfl (by decide) rfl ?_
  refine j_goto (tgt := 3) C dX11_replay_37 (by decide) ?_
  exact j_vl (hL3 x3 (x4 + 1) h hP hR) ⟨rfl, rfl, rfl, rfl, trivial⟩
def FX11_replay_s_3  : Nat → Int32 → Int32 → ph_H → ph_H
  | 0, _, _, h => h
  | q + 1, x3, x4, h => if x3 ≤ x4 then (h) else (if 300 ≤ x4 then (h) else (FX11_replay_s_33 (FX11_replay_s_3  q) x3 x4 ((FX3_go_s (h 36 ((x4 + 1).toNatClampNeg)) h).1) ((FX3_go_s (h 36 ((x4 + 1).toNatClampNeg)) h).2)))
def PX11_replay_s_3  : Nat → Int32 → Int32 → ph_H → Prop
  | 0, _, _, _ => False
  | q + 1, x3, x4, h => (x3 ≤ x4 → (True)) ∧ (¬ x3 ≤ x4 → ((300 ≤ x4 → (True)) ∧ (¬ 300 ≤ x4 → (vp_in (x4 + 1) 301 ∧ ((PX3_go_s (h 36 ((x4 + 1).toNatClampNeg)) h) ∧ (PX11_replay_s_33 (PX11_replay_s_3  q) x3 x4 ((FX3_go_s (h 36 ((x4 + 1).toNatClampNeg)) h).1) ((FX3_go_s (h 36 ((x4 + 1).toNatClampNeg)) h).2)))))))
set_option maxRecDepth 100000 in
set_option maxHeartbeats 4000000 in
theorem tX11_replay_s_3 {X : fj_X} {Y : fj_Y} {l0 : Launch} {ad : Nat → Nat} {n : Nat} {S : ph_S} {pr : Nat} (W : WS pr n S) (C : FC X Y l0 cX11_replay 5 RX11 ({ frames := 4, cells := 0, slots := 0, locals := 98 } : Room) 0 0 none) : ∀ (q : Nat) (x3 : Int32) (x4 : Int32) (h : ph_H), PX11_replay_s_3  q x3 x4 h → RETv X Y ad n S cX11_replay (FX11_replay_s_3  q x3 x4 h) → FJ X Y ad n S h 3 [(0, .ref (ad 0)), (1, .ref (ad 15)), (3, .int x3), (4, .int x4)] [] := by
  intro q
  induction q with
  | zero =>
    intro x3 x4 h hP hR
    exact absurd hP id
  | succ q ih =>
    intro x3 x4 h hP hR
    unfold PX11_replay_s_3 at hP
    unfold FX11_replay_s_3 at hR
    refine j_iload C dX11_replay_3 rfl ?_
    refine j_iload_n C dX11_replay_5 rfl rfl ?_
    refine j_icmp_ge (tgt := 40) C dX11_replay_6 (by decide) (fun c0 => ?_) (fun c0 => ?_)
    · have hP := hP.1 c0
      rw [if_pos c0] at hR
      exact hR _ _ dX11_replay_40
    · have hP := hP.2 c0
      rw [if_neg c0] at hR
      refine j_iload C dX11_replay_9 rfl ?_
      refine j_sipush (v := 300) C dX11_replay_11 (by decide) ?_
      refine j_icmp_ge (tgt := 40) C dX11_replay_14 (by decide) (fun c1 => ?_) (fun c1 => ?_)
      · have hP := hP.1 c1
        rw [if_pos c1] at hR
        exact hR _ _ dX11_replay_40
      · have hP := hP.2 c1
        rw [if_neg c1] at hR
        refine j_aload_n C dX11_replay_17 rfl rfl ?_
        refine j_aload_n C dX11_replay_18 rfl rfl ?_
        refine gCRX11_34 C dX11_replay_19 (W.lt 0 (by decide)) (sh_0 W) rfl ?_
        refine gCRX11_154 C dX11_replay_22 (W.lt 35 (by decide)) (sh_35 W) rfl ?_
        refine j_iload C dX11_replay_25 rfl ?_
        refine j_iconst (v := 1) C dX11_replay_27 (by decide) ?_
        refine j_iadd C dX11_replay_28 ?_
        obtain ⟨p7, hP⟩ := hP
        refine j_iald (k := 36) (v := (h 36 ((x4 + 1).toNatClampNeg))) C dX11_replay_29 (W.lt 36 (by decide)) (sh_36 W) p7 rfl ?_
        obtain ⟨p9, hP⟩ := hP
        refine j_callV C (MX3_go_s W (h 36 ((x4 + 1).toNatClampNeg)) h p9) dX11_replay_30 (CKX3_go (by decide)) ⟨rfl, rfl⟩ lk_RX11_355 in_X3_go se_X3_go (W.lt 15 (by decide)) (sh_15 W) rfl rfl (Nat.le_of_ble_eq_true rfl) ?_
        intro r S' h' hq
        obtain ⟨e1, e2, e3⟩ := hq
        rw [e1, e2, e3]
        exact j_vl (tX11_replay_s_33 W C (FX11_replay_s_3  q) (PX11_replay_s_3  q) (ih) x3 x4 ((FX3_go_s (h 36 ((x4 + 1).toNatClampNeg)) h).1) ((FX3_go_s (h 36 ((x4 + 1).toNatClampNeg)) h).2) hP hR) ⟨rfl, rfl, rfl, rfl, trivial⟩
def FX11_replay_s (a1 : Int32) (a2 : Int32) (h : ph_H) : ph_H := FX11_replay_s_3 2000 a2 a1 h
def PX11_replay_s (a1 : Int32) (a2 : Int32) (h : ph_H) : Prop := PX11_replay_s_3 2000 a2 a1 h
set_option maxRecDepth 100000 in
set_option maxHeartbeats 4000000 in
theorem tX11_replay_s {X : fj_X} {Y : fj_Y} {l0 : Launch} {ad : Nat → Nat} {n : Nat} {S : ph_S} {pr : Nat} (W : WS pr n S) (C : FC X Y l0 cX11_replay 5 RX11 ({ frames := 4, cells := 0, slots := 0, locals := 98 } : Room) 0 0 none) (a1 : Int32) (a2 : Int32) (h : ph_H) (hP : PX11_replay_s a1 a2 h) (hR : RETv X Y ad n S cX11_replay (FX11_replay_s a1 a2 h)) : FJ X Y ad n S h 0 [(0, .ref (ad 0)), (1, .ref (ad 15)), (2, .int a1), (3, .int a2)] [] := by
  unfold PX11_replay_s at hP
  unfold FX11_replay_s at hR
  refine j_iload_n C dX11_replay_0 rfl rfl ?_
  refine j_istore C dX11_replay_1 (by decide) rfl ?_
  exact j_vl (tX11_replay_s_3 W C 2000 a2 a1 h hP hR) ⟨rfl, rfl, rfl, rfl, trivial⟩
theorem MX11_replay_s {l0 : Launch} {Y : fj_Y} {ad : Nat → Nat} {n : Nat} {S : ph_S} {pr : Nat} (W : WS pr n S) (a1 : Int32) (a2 : Int32) (h : ph_H) (hP : PX11_replay_s a1 a2 h) : MV l0 yX11_replay cX11_replay 5 ({ frames := 4, cells := 0, slots := 0, locals := 98 } : Room) Y ad n S h [.ref (ad 0), .ref (ad 15), .int a1, .int a2] (fun S' h' => S' = S ∧ h' = FX11_replay_s a1 a2 h) := met_v (by decide) (Nat.le_of_ble_eq_true rfl) (fun X C K => j_vl (tX11_replay_s W C a1 a2 h hP (fun pc lv hd => K _ _ ⟨rfl, rfl⟩ pc lv hd)) ⟨rfl, rfl, rfl, rfl, trivial⟩)

-- X11_seenBehind
def FX11_seenBehind_44  (x1 : Int32) (h : ph_H) : ph_H := (hs h 0 9 x1)
def PX11_seenBehind_44  (x1 : Int32) (h : ph_H) : Prop := True
set_option maxRecDepth 100000 in
set_option maxHeartbeats 4000000 in
theorem tX11_seenBehind_44 {X : fj_X} {Y : fj_Y} {l0 : Launch} {ad : Nat → Nat} {n : Nat} {S : ph_S} {pr : Nat} (W : WS pr n S) (C : FC X Y l0 cX11_seenBehind 2 RX11 ({ frames := 5, cells := 0, slots := 0, locals := 122 } : Room) 0 0 (some (.object "ReplayBox$Machine"))) (x1 : Int32) (h : ph_H) (hP : PX11_seenBehind_44  x1 h) (hR : RETr X Y ad n S cX11_seenBehind 15 (FX11_seenBehind_44  x1 h)) : FJ X Y ad n S h 44 [(0, .ref (ad 0)), (1, .int x1)] [] := by
  unfold PX11_seenBehind_44 at hP
  unfold FX11_seenBehind_44 at hR
  refine j_aload_n C dX11_seenBehind_44 rfl rfl ?_
  refine j_iload_n C dX11_seenBehind_45 rfl rfl ?_
  refine pCRX11_123 C dX11_seenBehind_46 (W.lt 0 (by decide)) (sh_0 W) rfl ?_
  refine j_aload_n C dX11_seenBehind_49 rfl rfl ?_
  refine gCRX11_24 C dX11_seenBehind_50 (W.lt 0 (by decide)) (sh_0 W) rfl ?_
  exact hR _ _ dX11_seenBehind_53
def FX11_seenBehind_31  (x1 : Int32) (h : ph_H) : ph_H := FX11_seenBehind_44  x1 (FX11_replay_s (h 0 9) x1 h)
def PX11_seenBehind_31  (x1 : Int32) (h : ph_H) : Prop := (PX11_replay_s (h 0 9) x1 h) ∧ (PX11_seenBehind_44  x1 (FX11_replay_s (h 0 9) x1 h))
set_option maxRecDepth 100000 in
set_option maxHeartbeats 4000000 in
theorem tX11_seenBehind_31 {X : fj_X} {Y : fj_Y} {l0 : Launch} {ad : Nat → Nat} {n : Nat} {S : ph_S} {pr : Nat} (W : WS pr n S) (C : FC X Y l0 cX11_seenBehind 2 RX11 ({ frames := 5, cells := 0, slots := 0, locals := 122 } : Room) 0 0 (some (.object "ReplayBox$Machine"))) (x1 : Int32) (h : ph_H) (hP : PX11_seenBehind_31  x1 h) (hR : RETr X Y ad n S cX11_seenBehind 15 (FX11_seenBehind_31  x1 h)) : FJ X Y ad n S h 31 [(0, .ref (ad 0)), (1, .int x1)] [] := by
  unfold PX11_seenBehind_31 at hP
  unfold FX11_seenBehind_31 at hR
  refine j_aload_n C dX11_seenBehind_31 rfl rfl ?_
  refine j_aload_n C dX11_seenBehind_32 rfl rfl ?_
  refine gCRX11_24 C dX11_seenBehind_33 (W.lt 0 (by decide)) (sh_0 W) rfl ?_
  refine j_aload_n C dX11_seenBehind_36 rfl rfl ?_
  refine gCRX11_123 (v := (h 0 9)) C dX11_seenBehind_37 (W.lt 0 (by decide)) (sh_0 W) rfl rfl ?_
  refine j_iload_n C dX11_seenBehind_40 rfl rfl ?_
  obtain ⟨p6, hP⟩ := hP
  refine j_callVv C (MX11_replay_s W (h 0 9) x1 h p6) dX11_seenBehind_41 (CKX11_replay (by decide)) ⟨rfl, rfl⟩ lk_RX11_269 in_X11_replay se_X11_replay (W.lt 0 (by decide)) (sh_0 W) rfl rfl (Nat.le_of_ble_eq_true rfl) ?_
  intro S' h' hq
  obtain ⟨e1, e2⟩ := hq
  rw [e1, e2]
  exact j_vl (tX11_seenBehind_44 W C  x1 (FX11_replay_s (h 0 9) x1 h) hP hR) ⟨rfl, rfl, trivial⟩
def FX11_seenBehind_26  (x1 : Int32) (h : ph_H) : ph_H := FX11_seenBehind_31  x1 (hs h 0 9 0)
def PX11_seenBehind_26  (x1 : Int32) (h : ph_H) : Prop := PX11_seenBehind_31  x1 (hs h 0 9 0)
set_option maxRecDepth 100000 in
set_option maxHeartbeats 4000000 in
theorem tX11_seenBehind_26 {X : fj_X} {Y : fj_Y} {l0 : Launch} {ad : Nat → Nat} {n : Nat} {S : ph_S} {pr : Nat} (W : WS pr n S) (C : FC X Y l0 cX11_seenBehind 2 RX11 ({ frames := 5, cells := 0, slots := 0, locals := 122 } : Room) 0 0 (some (.object "ReplayBox$Machine"))) (x1 : Int32) (h : ph_H) (hP : PX11_seenBehind_26  x1 h) (hR : RETr X Y ad n S cX11_seenBehind 15 (FX11_seenBehind_26  x1 h)) : FJ X Y ad n S h 26 [(0, .ref (ad 0)), (1, .int x1)] [] := by
  unfold PX11_seenBehind_26 at hP
  unfold FX11_seenBehind_26 at hR
  refine j_aload_n C dX11_seenBehind_26 rfl rfl ?_
  refine j_iconst (v := 0) C dX11_seenBehind_27 (by decide) ?_
  refine pCRX11_123 C dX11_seenBehind_28 (W.lt 0 (by decide)) (sh_0 W) rfl ?_
  exact j_vl (tX11_seenBehind_31 W C  x1 (hs h 0 9 0) hP hR) ⟨rfl, rfl, trivial⟩
def FX11_seenBehind (a0 : Int32) (h : ph_H) : ph_H := if (h 0 9) ≤ a0 then (FX11_seenBehind_31  a0 h) else (FX11_seenBehind_26  a0 (FX3_begin_st (h 8 6) h))
def PX11_seenBehind (a0 : Int32) (h : ph_H) : Prop := ((h 0 9) ≤ a0 → (PX11_seenBehind_31  a0 h)) ∧ (¬ (h 0 9) ≤ a0 → ((PX3_begin_st (h 8 6) h) ∧ (PX11_seenBehind_26  a0 (FX3_begin_st (h 8 6) h))))
set_option maxRecDepth 100000 in
set_option maxHeartbeats 4000000 in
theorem tX11_seenBehind {X : fj_X} {Y : fj_Y} {l0 : Launch} {ad : Nat → Nat} {n : Nat} {S : ph_S} {pr : Nat} (W : WS pr n S) (C : FC X Y l0 cX11_seenBehind 2 RX11 ({ frames := 5, cells := 0, slots := 0, locals := 122 } : Room) 0 0 (some (.object "ReplayBox$Machine"))) (a0 : Int32) (h : ph_H) (hP : PX11_seenBehind a0 h) (hR : RETr X Y ad n S cX11_seenBehind 15 (FX11_seenBehind a0 h)) : FJ X Y ad n S h 0 [(0, .ref (ad 0)), (1, .int a0)] [] := by
  unfold PX11_seenBehind at hP
  unfold FX11_seenBehind at hR
  refine j_iload_n C dX11_seenBehind_0 rfl rfl ?_
  refine j_aload_n C dX11_seenBehind_1 rfl rfl ?_
  refine gCRX11_123 (v := (h 0 9)) C dX11_seenBehind_2 (W.lt 0 (by decide)) (sh_0 W) rfl rfl ?_
  refine j_icmp_ge (tgt := 31) C dX11_seenBehind_5 (by decide) (fun c0 => ?_) (fun c0 => ?_)
  · have hP := hP.1 c0
    rw [if_pos c0] at hR
    exact j_vl (tX11_seenBehind_31 W C  a0 h hP hR) ⟨rfl, rfl, trivial⟩
  · have hP := hP.2 c0
    rw [if_neg c0] at hR
    refine j_aload_n C dX11_seenBehind_8 rfl rfl ?_
    refine gCRX11_24 C dX11_seenBehind_9 (W.lt 0 (by decide)) (sh_0 W) rfl ?_
    refine j_aload_n C dX11_seenBehind_12 rfl rfl ?_
    refine gCRX11_16 C dX11_seenBehind_13 (W.lt 0 (by decide)) (sh_0 W) rfl ?_
    refine j_aload_n C dX11_seenBehind_16 rfl rfl ?_
    refine gCRX11_16 C dX11_seenBehind_17 (W.lt 0 (by decide)) (sh_0 W) rfl ?_
    refine gCRX11_87 (v := (h 8 6)) C dX11_seenBehind_20 (W.lt 8 (by decide)) (sh_8 W) rfl rfl ?_
    obtain ⟨p7, hP⟩ := hP
    refine j_callVv C (MX3_begin_st W (h 8 6) h p7) dX11_seenBehind_23 (CKX3_begin (by decide)) ⟨rfl, rfl⟩ lk_RX11_105 in_X3_begin se_X3_begin (W.lt 15 (by decide)) (sh_15 W) rfl rfl (Nat.le_of_ble_eq_true rfl) ?_
    intro S' h' hq
    obtain ⟨e1, e2⟩ := hq
    rw [e1, e2]
    exact j_vl (tX11_seenBehind_26 W C  a0 (FX3_begin_st (h 8 6) h) hP hR) ⟨rfl, rfl, trivial⟩
theorem MX11_seenBehind {l0 : Launch} {Y : fj_Y} {ad : Nat → Nat} {n : Nat} {S : ph_S} {pr : Nat} (W : WS pr n S) (a0 : Int32) (h : ph_H) (hP : PX11_seenBehind a0 h) : MR l0 yX11_seenBehind cX11_seenBehind 2 (some (.object "ReplayBox$Machine")) ({ frames := 5, cells := 0, slots := 0, locals := 122 } : Room) Y ad n S h [.ref (ad 0), .int a0] 15 (fun S' h' => S' = S ∧ h' = FX11_seenBehind a0 h) := met_r (by decide) (Nat.le_of_ble_eq_true rfl) ⟨_, rfl⟩ (fun X C K => j_vl (tX11_seenBehind W C a0 h hP (fun pc lv hd => K _ _ ⟨rfl, rfl⟩ pc lv hd)) ⟨rfl, rfl, trivial⟩)

-- X3_hasThing_s
def FX3_hasThing_s (a0 : Int32) (h : ph_H) : Int32 := if a0 < 0 then (0) else (if (h 15 10) ≤ a0 then (0) else (1))
def PX3_hasThing_s (a0 : Int32) (h : ph_H) : Prop := (a0 < 0 → (True)) ∧ (¬ a0 < 0 → (((h 15 10) ≤ a0 → (True)) ∧ (¬ (h 15 10) ≤ a0 → (True))))
set_option maxRecDepth 100000 in
set_option maxHeartbeats 4000000 in
theorem tX3_hasThing_s {X : fj_X} {Y : fj_Y} {l0 : Launch} {ad : Nat → Nat} {n : Nat} {S : ph_S} {pr : Nat} (W : WS pr n S) (C : FC X Y l0 cX3_hasThing 2 RX3 ({ frames := 0, cells := 0, slots := 0, locals := 0 } : Room) 0 0 (some .boolean)) (a0 : Int32) (h : ph_H) (hP : PX3_hasThing_s a0 h) (hR : RETq X Y ad n S h cX3_hasThing (FX3_hasThing_s a0 h)) : FJ X Y ad n S h 0 [(0, .ref (ad 15)), (1, .int a0)] [] := by
  unfold PX3_hasThing_s at hP
  unfold FX3_hasThing_s at hR
  refine j_iload_n C dX3_hasThing_0 rfl rfl ?_
  refine j_if_lt (tgt := 16) C dX3_hasThing_1 (by decide) (fun c0 => ?_) (fun c0 => ?_)
  · have hP := hP.1 c0
    rw [if_pos c0] at hR
    refine j_iconst (v := 0) C dX3_hasThing_16 (by decide) ?_
    exact hR bo_0 _ _ dX3_hasThing_17
  · have hP := hP.2 c0
    rw [if_neg c0] at hR
    refine j_iload_n C dX3_hasThing_4 rfl rfl ?_
    refine j_aload_n C dX3_hasThing_5 rfl rfl ?_
    refine gCRX3_60 (v := (h 15 10)) C dX3_hasThing_6 (W.lt 15 (by decide)) (sh_15 W) rfl rfl ?_
    refine j_icmp_ge (tgt := 16) C dX3_hasThing_9 (by decide) (fun c1 => ?_) (fun c1 => ?_)
    · have hP := hP.1 c1
      rw [if_pos c1] at hR
      refine j_iconst (v := 0) C dX3_hasThing_16 (by decide) ?_
      exact hR bo_0 _ _ dX3_hasThing_17
    · have hP := hP.2 c1
      rw [if_neg c1] at hR
      refine j_iconst (v := 1) C dX3_hasThing_12 (by decide) ?_
      refine j_goto (tgt := 17) C dX3_hasThing_13 (by decide) ?_
      exact hR bo_1 _ _ dX3_hasThing_17
theorem MX3_hasThing_s {l0 : Launch} {Y : fj_Y} {ad : Nat → Nat} {n : Nat} {S : ph_S} {pr : Nat} (W : WS pr n S) (a0 : Int32) (h : ph_H) (hP : PX3_hasThing_s a0 h) : MI l0 yX3_hasThing cX3_hasThing 2 (some .boolean) ({ frames := 0, cells := 0, slots := 0, locals := 0 } : Room) Y ad n S h [.ref (ad 15), .int a0] (fun r S' h' => S' = S ∧ h' = h ∧ r = FX3_hasThing_s a0 h ∧ bo r) := met_i (by decide) (Nat.le_of_ble_eq_true rfl) (fun _ _ _ q => bo_n q.2.2.2) (fun X C K => j_vl (tX3_hasThing_s W C a0 h hP (fun b pc lv hd => K _ _ _ ⟨rfl, rfl, rfl, b⟩ pc lv hd)) ⟨rfl, rfl, trivial⟩)

-- X11_thing
def FX11_thing_18  (x1 : Int32) (x2 : Int32) (h : ph_H) : Int32 × ph_H := if (FX3_hasThing_s x1 h) = 0 then (((-1), h)) else (if x2 < 0 then (((-1), h)) else (if x2 ≤ 1 then (if x2 = 0 then (((h 21 (x1.toNatClampNeg)), h)) else (if (h 21 (x1.toNatClampNeg)) = 1 then (((h 22 (x1.toNatClampNeg)), h)) else (((h 23 (x1.toNatClampNeg)), h)))) else (((-1), h))))
def PX11_thing_18  (x1 : Int32) (x2 : Int32) (h : ph_H) : Prop := (PX3_hasThing_s x1 h) ∧ (((FX3_hasThing_s x1 h) = 0 → (True)) ∧ (¬ (FX3_hasThing_s x1 h) = 0 → ((x2 < 0 → (True)) ∧ (¬ x2 < 0 → ((x2 ≤ 1 → ((x2 = 0 → (vp_in x1 12 ∧ (True))) ∧ (¬ x2 = 0 → (vp_in x1 12 ∧ (((h 21 (x1.toNatClampNeg)) = 1 → (vp_in x1 12 ∧ (True))) ∧ (¬ (h 21 (x1.toNatClampNeg)) = 1 → (vp_in x1 12 ∧ (True)))))))) ∧ (¬ x2 ≤ 1 → (True)))))))
set_option maxRecDepth 100000 in
set_option maxHeartbeats 4000000 in
theorem tX11_thing_18 {X : fj_X} {Y : fj_Y} {l0 : Launch} {ad : Nat → Nat} {n : Nat} {S : ph_S} {pr : Nat} (W : WS pr n S) (C : FC X Y l0 cX11_thing 4 RX11 ({ frames := 6, cells := 0, slots := 0, locals := 143 } : Room) 0 0 (some .int)) (x1 : Int32) (x2 : Int32) (h : ph_H) (hP : PX11_thing_18  x1 x2 h) (hR : RETi X Y ad n S cX11_thing (FX11_thing_18  x1 x2 h)) : FJ X Y ad n S h 18 [(1, .int x1), (2, .int x2)] [.ref (ad 15)] := by
  unfold PX11_thing_18 at hP
  unfold FX11_thing_18 at hR
  refine j_astore_n C dX11_thing_18 rfl (by decide) rfl ?_
  refine j_aload_n C dX11_thing_19 rfl rfl ?_
  refine j_iload_n C dX11_thing_20 rfl rfl ?_
  obtain ⟨p3, hP⟩ := hP
  refine j_callV C (MX3_hasThing_s W x1 h p3) dX11_thing_21 (CKX3_hasThing (by decide)) ⟨rfl, rfl⟩ lk_RX11_210 in_X3_hasThing se_X3_hasThing (W.lt 15 (by decide)) (sh_15 W) rfl rfl (Nat.le_of_ble_eq_true rfl) ?_
  intro r S' h' hq
  obtain ⟨e1, hh, e3, hb5⟩ := hq
  rw [e1, hh, e3]
  refine j_if_eq (tgt := 36) C dX11_thing_24 (by decide) (fun c0 => ?_) (fun c0 => ?_)
  · have hP := hP.1 c0
    rw [if_pos c0] at hR
    refine j_iconst (v := (-1)) C dX11_thing_36 (by decide) ?_
    exact RETi_u hR _ _ dX11_thing_37
  · have hP := hP.2 c0
    rw [if_neg c0] at hR
    refine j_iload_n C dX11_thing_27 rfl rfl ?_
    refine j_if_lt (tgt := 36) C dX11_thing_28 (by decide) (fun c1 => ?_) (fun c1 => ?_)
    · have hP := hP.1 c1
      rw [if_pos c1] at hR
      refine j_iconst (v := (-1)) C dX11_thing_36 (by decide) ?_
      exact RETi_u hR _ _ dX11_thing_37
    · have hP := hP.2 c1
      rw [if_neg c1] at hR
      refine j_iload_n C dX11_thing_31 rfl rfl ?_
      refine j_iconst (v := 1) C dX11_thing_32 (by decide) ?_
      refine j_icmp_le (tgt := 38) C dX11_thing_33 (by decide) (fun c2 => ?_) (fun c2 => ?_)
      · have hP := hP.1 c2
        rw [if_pos c2] at hR
        refine j_iload_n C dX11_thing_38 rfl rfl ?_
        refine j_if_ne (tgt := 49) C dX11_thing_39 (by decide) (fun c3 => ?_) (fun c3 => ?_)
        · have hP := hP.2 c3
          rw [if_neg c3] at hR
          refine j_aload_n C dX11_thing_49 rfl rfl ?_
          refine gCRX11_213 C dX11_thing_50 (W.lt 15 (by decide)) (sh_15 W) rfl ?_
          refine j_iload_n C dX11_thing_53 rfl rfl ?_
          obtain ⟨p3, hP⟩ := hP
          refine j_iald (k := 21) (v := (h 21 (x1.toNatClampNeg))) C dX11_thing_54 (W.lt 21 (by decide)) (sh_21 W) p3 rfl ?_
          refine j_iconst (v := 1) C dX11_thing_55 (by decide) ?_
          refine j_icmp_ne (tgt := 68) C dX11_thing_56 (by decide) (fun c4 => ?_) (fun c4 => ?_)
          · have hP := hP.2 c4
            rw [if_neg c4] at hR
            refine j_aload_n C dX11_thing_68 rfl rfl ?_
            refine gCRX11_219 C dX11_thing_69 (W.lt 15 (by decide)) (sh_15 W) rfl ?_
            refine j_iload_n C dX11_thing_72 rfl rfl ?_
            obtain ⟨p3, hP⟩ := hP
            refine j_iald (k := 23) (v := (h 23 (x1.toNatClampNeg))) C dX11_thing_73 (W.lt 23 (by decide)) (sh_23 W) p3 rfl ?_
            exact RETi_u hR _ _ dX11_thing_74
          · have hP := hP.1 c4
            rw [if_pos c4] at hR
            refine j_aload_n C dX11_thing_59 rfl rfl ?_
            refine gCRX11_216 C dX11_thing_60 (W.lt 15 (by decide)) (sh_15 W) rfl ?_
            refine j_iload_n C dX11_thing_63 rfl rfl ?_
            obtain ⟨p3, hP⟩ := hP
            refine j_iald (k := 22) (v := (h 22 (x1.toNatClampNeg))) C dX11_thing_64 (W.lt 22 (by decide)) (sh_22 W) p3 rfl ?_
            refine j_goto (tgt := 74) C dX11_thing_65 (by decide) ?_
            exact RETi_u hR _ _ dX11_thing_74
        · have hP := hP.1 c3
          rw [if_pos c3] at hR
          refine j_aload_n C dX11_thing_42 rfl rfl ?_
          refine gCRX11_213 C dX11_thing_43 (W.lt 15 (by decide)) (sh_15 W) rfl ?_
          refine j_iload_n C dX11_thing_46 rfl rfl ?_
          obtain ⟨p3, hP⟩ := hP
          refine j_iald (k := 21) (v := (h 21 (x1.toNatClampNeg))) C dX11_thing_47 (W.lt 21 (by decide)) (sh_21 W) p3 rfl ?_
          exact RETi_u hR _ _ dX11_thing_48
      · have hP := hP.2 c2
        rw [if_neg c2] at hR
        refine j_iconst (v := (-1)) C dX11_thing_36 (by decide) ?_
        exact RETi_u hR _ _ dX11_thing_37
def FX11_thing (a0 : Int32) (a1 : Int32) (h : ph_H) : Int32 × ph_H := if (h 0 8) = 0 then (((-2), h)) else (FX11_thing_18  a0 a1 (FX11_seenBehind (h 0 10) h))
def PX11_thing (a0 : Int32) (a1 : Int32) (h : ph_H) : Prop := ((h 0 8) = 0 → (True)) ∧ (¬ (h 0 8) = 0 → ((PX11_seenBehind (h 0 10) h) ∧ (PX11_thing_18  a0 a1 (FX11_seenBehind (h 0 10) h))))
set_option maxRecDepth 100000 in
set_option maxHeartbeats 4000000 in
theorem tX11_thing {X : fj_X} {Y : fj_Y} {l0 : Launch} {ad : Nat → Nat} {n : Nat} {S : ph_S} {pr : Nat} (W : WS pr n S) (C : FC X Y l0 cX11_thing 4 RX11 ({ frames := 6, cells := 0, slots := 0, locals := 143 } : Room) 0 0 (some .int)) (a0 : Int32) (a1 : Int32) (h : ph_H) (hP : PX11_thing a0 a1 h) (hR : RETi X Y ad n S cX11_thing (FX11_thing a0 a1 h)) : FJ X Y ad n S h 0 [(0, .ref (ad 0)), (1, .int a0), (2, .int a1)] [] := by
  unfold PX11_thing at hP
  unfold FX11_thing at hR
  refine j_aload_n C dX11_thing_0 rfl rfl ?_
  refine gCRX11_116 (v := (h 0 8)) C dX11_thing_1 (W.lt 0 (by decide)) (sh_0 W) rfl rfl ?_
  refine j_if_ne (tgt := 10) C dX11_thing_4 (by decide) (fun c0 => ?_) (fun c0 => ?_)
  · have hP := hP.2 c0
    rw [if_neg c0] at hR
    refine j_aload_n C dX11_thing_10 rfl rfl ?_
    refine j_aload_n C dX11_thing_11 rfl rfl ?_
    refine gCRX11_126 (v := (h 0 10)) C dX11_thing_12 (W.lt 0 (by decide)) (sh_0 W) rfl rfl ?_
    obtain ⟨p3, hP⟩ := hP
    refine j_callVr C (MX11_seenBehind W (h 0 10) h p3) dX11_thing_15 (CKX11_seenBehind (by decide)) ⟨rfl, rfl⟩ lk_RX11_200 in_X11_seenBehind se_X11_seenBehind (W.lt 0 (by decide)) (sh_0 W) rfl rfl (Nat.le_of_ble_eq_true rfl) ?_
    intro S' h' hq
    obtain ⟨e1, e2⟩ := hq
    rw [e1, e2]
    exact j_vl (tX11_thing_18 W C  a0 a1 (FX11_seenBehind (h 0 10) h) hP hR) ⟨rfl, rfl, trivial⟩
  · have hP := hP.1 c0
    rw [if_pos c0] at hR
    refine j_bipush (v := (-2)) C dX11_thing_7 (by decide) ?_
    exact RETi_u hR _ _ dX11_thing_9
theorem MX11_thing {l0 : Launch} {Y : fj_Y} {ad : Nat → Nat} {n : Nat} {S : ph_S} {pr : Nat} (W : WS pr n S) (a0 : Int32) (a1 : Int32) (h : ph_H) (hP : PX11_thing a0 a1 h) : MI l0 yX11_thing cX11_thing 4 (some .int) ({ frames := 6, cells := 0, slots := 0, locals := 143 } : Room) Y ad n S h [.ref (ad 0), .int a0, .int a1] (fun r S' h' => S' = S ∧ h' = (FX11_thing a0 a1 h).2 ∧ r = (FX11_thing a0 a1 h).1) := met_i (by decide) (Nat.le_of_ble_eq_true rfl) (fun _ _ _ _ => rfl) (fun X C K => j_vl (tX11_thing W C a0 a1 h hP (fun pc lv hd => K _ _ _ ⟨rfl, rfl, rfl⟩ pc lv hd)) ⟨rfl, rfl, rfl, trivial⟩)

-- X3_standing_s
def FX3_standing_s (a0 : Int32) (h : ph_H) : Int32 := if (h 19 (a0.toNatClampNeg)) = 0 then (0) else (if (h 19 (a0.toNatClampNeg)) = 2 then (3) else (if (FX3_hasEnded_s a0 h) = 0 then (if (FX3_canGo_s a0 h) = 0 then (2) else (1)) else (4)))
def PX3_standing_s (a0 : Int32) (h : ph_H) : Prop := vp_in a0 4 ∧ (((h 19 (a0.toNatClampNeg)) = 0 → (True)) ∧ (¬ (h 19 (a0.toNatClampNeg)) = 0 → (vp_in a0 4 ∧ (((h 19 (a0.toNatClampNeg)) = 2 → (True)) ∧ (¬ (h 19 (a0.toNatClampNeg)) = 2 → ((PX3_hasEnded_s a0 h) ∧ (((FX3_hasEnded_s a0 h) = 0 → ((PX3_canGo_s a0 h) ∧ (((FX3_canGo_s a0 h) = 0 → (True)) ∧ (¬ (FX3_canGo_s a0 h) = 0 → (True))))) ∧ (¬ (FX3_hasEnded_s a0 h) = 0 → (True)))))))))
set_option maxRecDepth 100000 in
set_option maxHeartbeats 4000000 in
theorem tX3_standing_s {X : fj_X} {Y : fj_Y} {l0 : Launch} {ad : Nat → Nat} {n : Nat} {S : ph_S} {pr : Nat} (W : WS pr n S) (C : FC X Y l0 cX3_standing 2 RX3 ({ frames := 3, cells := 0, slots := 0, locals := 66 } : Room) 0 0 (some .int)) (a0 : Int32) (h : ph_H) (hP : PX3_standing_s a0 h) (hR : RETp X Y ad n S h cX3_standing (FX3_standing_s a0 h)) : FJ X Y ad n S h 0 [(0, .ref (ad 15)), (1, .int a0)] [] := by
  unfold PX3_standing_s at hP
  unfold FX3_standing_s at hR
  refine j_aload_n C dX3_standing_0 rfl rfl ?_
  refine gCRX3_21 C dX3_standing_1 (W.lt 15 (by decide)) (sh_15 W) rfl ?_
  refine j_iload_n C dX3_standing_4 rfl rfl ?_
  obtain ⟨p3, hP⟩ := hP
  refine j_iald (k := 19) (v := (h 19 (a0.toNatClampNeg))) C dX3_standing_5 (W.lt 19 (by decide)) (sh_19 W) p3 rfl ?_
  refine j_if_ne (tgt := 11) C dX3_standing_6 (by decide) (fun c0 => ?_) (fun c0 => ?_)
  · have hP := hP.2 c0
    rw [if_neg c0] at hR
    refine j_aload_n C dX3_standing_11 rfl rfl ?_
    refine gCRX3_21 C dX3_standing_12 (W.lt 15 (by decide)) (sh_15 W) rfl ?_
    refine j_iload_n C dX3_standing_15 rfl rfl ?_
    obtain ⟨p3, hP⟩ := hP
    refine j_iald (k := 19) (v := (h 19 (a0.toNatClampNeg))) C dX3_standing_16 (W.lt 19 (by decide)) (sh_19 W) p3 rfl ?_
    refine j_iconst (v := 2) C dX3_standing_17 (by decide) ?_
    refine j_icmp_ne (tgt := 23) C dX3_standing_18 (by decide) (fun c1 => ?_) (fun c1 => ?_)
    · have hP := hP.2 c1
      rw [if_neg c1] at hR
      refine j_aload_n C dX3_standing_23 rfl rfl ?_
      refine j_iload_n C dX3_standing_24 rfl rfl ?_
      obtain ⟨p2, hP⟩ := hP
      refine j_callV C (MX3_hasEnded_s W a0 h p2) dX3_standing_25 (CKX3_hasEnded (by decide)) ⟨rfl, rfl⟩ lk_RX3_74 in_X3_hasEnded se_X3_hasEnded (W.lt 15 (by decide)) (sh_15 W) rfl rfl (Nat.le_of_ble_eq_true rfl) ?_
      intro r S' h' hq
      obtain ⟨e1, hh, e3, hb4⟩ := hq
      rw [e1, hh, e3]
      refine j_if_eq (tgt := 33) C dX3_standing_28 (by decide) (fun c2 => ?_) (fun c2 => ?_)
      · have hP := hP.1 c2
        rw [if_pos c2] at hR
        refine j_aload_n C dX3_standing_33 rfl rfl ?_
        refine j_iload_n C dX3_standing_34 rfl rfl ?_
        obtain ⟨p2, hP⟩ := hP
        refine j_callV C (MX3_canGo_s W a0 h p2) dX3_standing_35 (CKX3_canGo (by decide)) ⟨rfl, rfl⟩ lk_RX3_92 in_X3_canGo se_X3_canGo (W.lt 15 (by decide)) (sh_15 W) rfl rfl (Nat.le_of_ble_eq_true rfl) ?_
        intro r S' h' hq
        obtain ⟨e1, hh, e3, hb4⟩ := hq
        rw [e1, hh, e3]
        refine j_if_eq (tgt := 45) C dX3_standing_38 (by decide) (fun c3 => ?_) (fun c3 => ?_)
        · have hP := hP.1 c3
          rw [if_pos c3] at hR
          refine j_iconst (v := 2) C dX3_standing_45 (by decide) ?_
          exact hR _ _ dX3_standing_46
        · have hP := hP.2 c3
          rw [if_neg c3] at hR
          refine j_iconst (v := 1) C dX3_standing_41 (by decide) ?_
          refine j_goto (tgt := 46) C dX3_standing_42 (by decide) ?_
          exact hR _ _ dX3_standing_46
      · have hP := hP.2 c2
        rw [if_neg c2] at hR
        refine j_iconst (v := 4) C dX3_standing_31 (by decide) ?_
        exact hR _ _ dX3_standing_32
    · have hP := hP.1 c1
      rw [if_pos c1] at hR
      refine j_iconst (v := 3) C dX3_standing_21 (by decide) ?_
      exact hR _ _ dX3_standing_22
  · have hP := hP.1 c0
    rw [if_pos c0] at hR
    refine j_iconst (v := 0) C dX3_standing_9 (by decide) ?_
    exact hR _ _ dX3_standing_10
theorem MX3_standing_s {l0 : Launch} {Y : fj_Y} {ad : Nat → Nat} {n : Nat} {S : ph_S} {pr : Nat} (W : WS pr n S) (a0 : Int32) (h : ph_H) (hP : PX3_standing_s a0 h) : MI l0 yX3_standing cX3_standing 2 (some .int) ({ frames := 3, cells := 0, slots := 0, locals := 66 } : Room) Y ad n S h [.ref (ad 15), .int a0] (fun r S' h' => S' = S ∧ h' = h ∧ r = FX3_standing_s a0 h) := met_i (by decide) (Nat.le_of_ble_eq_true rfl) (fun _ _ _ _ => rfl) (fun X C K => j_vl (tX3_standing_s W C a0 h hP (fun pc lv hd => K _ _ _ ⟨rfl, rfl, rfl⟩ pc lv hd)) ⟨rfl, rfl, trivial⟩)

-- X11_thread
def FX11_thread_36  (x1 : Int32) (x2 : Int32) (h : ph_H) : Int32 × ph_H := if x2 = 0 then (((FX3_nextInstruction_s x1 h), h)) else (((FX3_standing_s x1 h), h))
def PX11_thread_36  (x1 : Int32) (x2 : Int32) (h : ph_H) : Prop := (x2 = 0 → ((PX3_nextInstruction_s x1 h) ∧ (True))) ∧ (¬ x2 = 0 → ((PX3_standing_s x1 h) ∧ (True)))
set_option maxRecDepth 100000 in
set_option maxHeartbeats 4000000 in
theorem tX11_thread_36 {X : fj_X} {Y : fj_Y} {l0 : Launch} {ad : Nat → Nat} {n : Nat} {S : ph_S} {pr : Nat} (W : WS pr n S) (C : FC X Y l0 cX11_thread 4 RX11 ({ frames := 6, cells := 0, slots := 0, locals := 143 } : Room) 0 0 (some .int)) (x1 : Int32) (x2 : Int32) (h : ph_H) (hP : PX11_thread_36  x1 x2 h) (hR : RETi X Y ad n S cX11_thread (FX11_thread_36  x1 x2 h)) : FJ X Y ad n S h 36 [(1, .int x1), (2, .int x2)] [.ref (ad 15)] := by
  unfold PX11_thread_36 at hP
  unfold FX11_thread_36 at hR
  refine j_astore_n C dX11_thread_36 rfl (by decide) rfl ?_
  refine j_iload_n C dX11_thread_37 rfl rfl ?_
  refine j_if_ne (tgt := 49) C dX11_thread_38 (by decide) (fun c0 => ?_) (fun c0 => ?_)
  · have hP := hP.2 c0
    rw [if_neg c0] at hR
    refine j_aload_n C dX11_thread_49 rfl rfl ?_
    refine j_iload_n C dX11_thread_50 rfl rfl ?_
    obtain ⟨p2, hP⟩ := hP
    refine j_callV C (MX3_standing_s W x1 h p2) dX11_thread_51 (CKX3_standing (by decide)) ⟨rfl, rfl⟩ lk_RX11_234 in_X3_standing se_X3_standing (W.lt 15 (by decide)) (sh_15 W) rfl rfl (Nat.le_of_ble_eq_true rfl) ?_
    intro r S' h' hq
    obtain ⟨e1, hh, e3⟩ := hq
    rw [e1, hh, e3]
    exact RETi_u hR _ _ dX11_thread_54
  · have hP := hP.1 c0
    rw [if_pos c0] at hR
    refine j_aload_n C dX11_thread_41 rfl rfl ?_
    refine j_iload_n C dX11_thread_42 rfl rfl ?_
    obtain ⟨p2, hP⟩ := hP
    refine j_callV C (MX3_nextInstruction_s W x1 h p2) dX11_thread_43 (CKX3_nextInstruction (by decide)) ⟨rfl, rfl⟩ lk_RX11_231 in_X3_nextInstruction se_X3_nextInstruction (W.lt 15 (by decide)) (sh_15 W) rfl rfl (Nat.le_of_ble_eq_true rfl) ?_
    intro r S' h' hq
    obtain ⟨e1, hh, e3⟩ := hq
    rw [e1, hh, e3]
    refine j_goto (tgt := 54) C dX11_thread_46 (by decide) ?_
    exact RETi_u hR _ _ dX11_thread_54
def FX11_thread (a0 : Int32) (a1 : Int32) (h : ph_H) : Int32 × ph_H := if (h 0 8) = 0 then (((-2), h)) else (if (FX11_isThread a0) = 0 then (((-1), h)) else (if a1 < 0 then (((-1), h)) else (if a1 ≤ 1 then (FX11_thread_36  a0 a1 (FX11_seenBehind (h 0 10) h)) else (((-1), h)))))
def PX11_thread (a0 : Int32) (a1 : Int32) (h : ph_H) : Prop := ((h 0 8) = 0 → (True)) ∧ (¬ (h 0 8) = 0 → ((PX11_isThread a0) ∧ (((FX11_isThread a0) = 0 → (True)) ∧ (¬ (FX11_isThread a0) = 0 → ((a1 < 0 → (True)) ∧ (¬ a1 < 0 → ((a1 ≤ 1 → ((PX11_seenBehind (h 0 10) h) ∧ (PX11_thread_36  a0 a1 (FX11_seenBehind (h 0 10) h)))) ∧ (¬ a1 ≤ 1 → (True)))))))))
set_option maxRecDepth 100000 in
set_option maxHeartbeats 4000000 in
theorem tX11_thread {X : fj_X} {Y : fj_Y} {l0 : Launch} {ad : Nat → Nat} {n : Nat} {S : ph_S} {pr : Nat} (W : WS pr n S) (C : FC X Y l0 cX11_thread 4 RX11 ({ frames := 6, cells := 0, slots := 0, locals := 143 } : Room) 0 0 (some .int)) (a0 : Int32) (a1 : Int32) (h : ph_H) (hP : PX11_thread a0 a1 h) (hR : RETi X Y ad n S cX11_thread (FX11_thread a0 a1 h)) : FJ X Y ad n S h 0 [(0, .ref (ad 0)), (1, .int a0), (2, .int a1)] [] := by
  unfold PX11_thread at hP
  unfold FX11_thread at hR
  refine j_aload_n C dX11_thread_0 rfl rfl ?_
  refine gCRX11_116 (v := (h 0 8)) C dX11_thread_1 (W.lt 0 (by decide)) (sh_0 W) rfl rfl ?_
  refine j_if_ne (tgt := 10) C dX11_thread_4 (by decide) (fun c0 => ?_) (fun c0 => ?_)
  · have hP := hP.2 c0
    rw [if_neg c0] at hR
    refine j_iload_n C dX11_thread_10 rfl rfl ?_
    obtain ⟨p1, hP⟩ := hP
    refine j_callS C (MX11_isThread W a0 h p1) dX11_thread_11 (CKX11_isThread (by decide)) ⟨rfl, rfl⟩ lk_RX11_66 st_X11_isThread rfl (Nat.le_of_ble_eq_true rfl) ?_
    intro r S' h' hq
    obtain ⟨e1, hh, e3, hb3⟩ := hq
    rw [e1, hh, e3]
    refine j_if_eq (tgt := 26) C dX11_thread_14 (by decide) (fun c1 => ?_) (fun c1 => ?_)
    · have hP := hP.1 c1
      rw [if_pos c1] at hR
      refine j_iconst (v := (-1)) C dX11_thread_26 (by decide) ?_
      exact RETi_u hR _ _ dX11_thread_27
    · have hP := hP.2 c1
      rw [if_neg c1] at hR
      refine j_iload_n C dX11_thread_17 rfl rfl ?_
      refine j_if_lt (tgt := 26) C dX11_thread_18 (by decide) (fun c2 => ?_) (fun c2 => ?_)
      · have hP := hP.1 c2
        rw [if_pos c2] at hR
        refine j_iconst (v := (-1)) C dX11_thread_26 (by decide) ?_
        exact RETi_u hR _ _ dX11_thread_27
      · have hP := hP.2 c2
        rw [if_neg c2] at hR
        refine j_iload_n C dX11_thread_21 rfl rfl ?_
        refine j_iconst (v := 1) C dX11_thread_22 (by decide) ?_
        refine j_icmp_le (tgt := 28) C dX11_thread_23 (by decide) (fun c3 => ?_) (fun c3 => ?_)
        · have hP := hP.1 c3
          rw [if_pos c3] at hR
          refine j_aload_n C dX11_thread_28 rfl rfl ?_
          refine j_aload_n C dX11_thread_29 rfl rfl ?_
          refine gCRX11_126 (v := (h 0 10)) C dX11_thread_30 (W.lt 0 (by decide)) (sh_0 W) rfl rfl ?_
          obtain ⟨p3, hP⟩ := hP
          refine j_callVr C (MX11_seenBehind W (h 0 10) h p3) dX11_thread_33 (CKX11_seenBehind (by decide)) ⟨rfl, rfl⟩ lk_RX11_200 in_X11_seenBehind se_X11_seenBehind (W.lt 0 (by decide)) (sh_0 W) rfl rfl (Nat.le_of_ble_eq_true rfl) ?_
          intro S' h' hq
          obtain ⟨e1, e2⟩ := hq
          rw [e1, e2]
          exact j_vl (tX11_thread_36 W C  a0 a1 (FX11_seenBehind (h 0 10) h) hP hR) ⟨rfl, rfl, trivial⟩
        · have hP := hP.2 c3
          rw [if_neg c3] at hR
          refine j_iconst (v := (-1)) C dX11_thread_26 (by decide) ?_
          exact RETi_u hR _ _ dX11_thread_27
  · have hP := hP.1 c0
    rw [if_pos c0] at hR
    refine j_bipush (v := (-2)) C dX11_thread_7 (by decide) ?_
    exact RETi_u hR _ _ dX11_thread_9
theorem MX11_thread {l0 : Launch} {Y : fj_Y} {ad : Nat → Nat} {n : Nat} {S : ph_S} {pr : Nat} (W : WS pr n S) (a0 : Int32) (a1 : Int32) (h : ph_H) (hP : PX11_thread a0 a1 h) : MI l0 yX11_thread cX11_thread 4 (some .int) ({ frames := 6, cells := 0, slots := 0, locals := 143 } : Room) Y ad n S h [.ref (ad 0), .int a0, .int a1] (fun r S' h' => S' = S ∧ h' = (FX11_thread a0 a1 h).2 ∧ r = (FX11_thread a0 a1 h).1) := met_i (by decide) (Nat.le_of_ble_eq_true rfl) (fun _ _ _ _ => rfl) (fun X C K => j_vl (tX11_thread W C a0 a1 h hP (fun pc lv hd => K _ _ _ ⟨rfl, rfl, rfl⟩ pc lv hd)) ⟨rfl, rfl, rfl, trivial⟩)

-- X10_lastWrite
def FX10_lastWrite_10  : Nat → Int32 → Int32 → ph_H → Int32
  | 0, _, _, _ => 0
  | q + 1, x1, x3, h => if x3 ≤ 0 then (0) else (if (h 40 (x3.toNatClampNeg)) = x1 then (x3) else (FX10_lastWrite_10  q x1 (x3 + (-1)) h))
def PX10_lastWrite_10  : Nat → Int32 → Int32 → ph_H → Prop
  | 0, _, _, _ => False
  | q + 1, x1, x3, h => (x3 ≤ 0 → (True)) ∧ (¬ x3 ≤ 0 → (vp_in x3 301 ∧ (((h 40 (x3.toNatClampNeg)) = x1 → (True)) ∧ (¬ (h 40 (x3.toNatClampNeg)) = x1 → (PX10_lastWrite_10  q x1 (x3 + (-1)) h)))))
set_option maxRecDepth 100000 in
set_option maxHeartbeats 4000000 in
theorem tX10_lastWrite_10 {X : fj_X} {Y : fj_Y} {l0 : Launch} {ad : Nat → Nat} {n : Nat} {S : ph_S} {pr : Nat} (W : WS pr n S) (C : FC X Y l0 cX10_lastWrite 4 RX10 ({ frames := 0, cells := 0, slots := 0, locals := 0 } : Room) 0 0 (some .int)) (h : ph_H) : ∀ (q : Nat) (x1 : Int32) (x3 : Int32), PX10_lastWrite_10  q x1 x3 h → RETp X Y ad n S h cX10_lastWrite (FX10_lastWrite_10  q x1 x3 h) → FJ X Y ad n S h 10 [(0, .ref (ad 35)), (1, .int x1), (3, .int x3)] [] := by
  intro q
  induction q with
  | zero =>
    intro x1 x3 hP hR
    exact absurd hP id
  | succ q ih =>
    intro x1 x3 hP hR
    unfold PX10_lastWrite_10 at hP
    unfold FX10_lastWrite_10 at hR
    refine j_iload_n C dX10_lastWrite_10 rfl rfl ?_
    refine j_if_le (tgt := 32) C dX10_lastWrite_11 (by decide) (fun c0 => ?_) (fun c0 => ?_)
    · have hP := hP.1 c0
      rw [if_pos c0] at hR
      refine j_iconst (v := 0) C dX10_lastWrite_32 (by decide) ?_
      exact hR _ _ dX10_lastWrite_33
    · have hP := hP.2 c0
      rw [if_neg c0] at hR
      refine j_aload_n C dX10_lastWrite_14 rfl rfl ?_
      refine gCRX10_24 C dX10_lastWrite_15 (W.lt 35 (by decide)) (sh_35 W) rfl ?_
      refine j_iload_n C dX10_lastWrite_18 rfl rfl ?_
      obtain ⟨p3, hP⟩ := hP
      refine j_iald (k := 40) (v := (h 40 (x3.toNatClampNeg))) C dX10_lastWrite_19 (W.lt 40 (by decide)) (sh_40 W) p3 rfl ?_
      refine j_iload_n C dX10_lastWrite_20 rfl rfl ?_
      refine j_icmp_ne (tgt := 26) C dX10_lastWrite_21 (by decide) (fun c1 => ?_) (fun c1 => ?_)
      · have hP := hP.2 c1
        rw [if_neg c1] at hR
        refine j_iinc (v := (x3 + (-1))) C dX10_lastWrite_26 rfl rfl (by decide) rfl ?_
        refine j_goto (tgt := 10) C dX10_lastWrite_29 (by decide) ?_
        exact j_vl (ih x1 (x3 + (-1)) hP hR) ⟨rfl, rfl, rfl, trivial⟩
      · have hP := hP.1 c1
        rw [if_pos c1] at hR
        refine j_iload_n C dX10_lastWrite_24 rfl rfl ?_
        exact hR _ _ dX10_lastWrite_25
def FX10_lastWrite (a0 : Int32) (a1 : Int32) (h : ph_H) : Int32 := if a0 = (-2) then (0) else (FX10_lastWrite_10 2000 a0 a1 h)
def PX10_lastWrite (a0 : Int32) (a1 : Int32) (h : ph_H) : Prop := (a0 = (-2) → (True)) ∧ (¬ a0 = (-2) → (PX10_lastWrite_10 2000 a0 a1 h))
set_option maxRecDepth 100000 in
set_option maxHeartbeats 4000000 in
theorem tX10_lastWrite {X : fj_X} {Y : fj_Y} {l0 : Launch} {ad : Nat → Nat} {n : Nat} {S : ph_S} {pr : Nat} (W : WS pr n S) (C : FC X Y l0 cX10_lastWrite 4 RX10 ({ frames := 0, cells := 0, slots := 0, locals := 0 } : Room) 0 0 (some .int)) (a0 : Int32) (a1 : Int32) (h : ph_H) (hP : PX10_lastWrite a0 a1 h) (hR : RETp X Y ad n S h cX10_lastWrite (FX10_lastWrite a0 a1 h)) : FJ X Y ad n S h 0 [(0, .ref (ad 35)), (1, .int a0), (2, .int a1)] [] := by
  unfold PX10_lastWrite at hP
  unfold FX10_lastWrite at hR
  refine j_iload_n C dX10_lastWrite_0 rfl rfl ?_
  refine j_bipush (v := (-2)) C dX10_lastWrite_1 (by decide) ?_
  refine j_icmp_ne (tgt := 8) C dX10_lastWrite_3 (by decide) (fun c0 => ?_) (fun c0 => ?_)
  · have hP := hP.2 c0
    rw [if_neg c0] at hR
    refine j_iload_n C dX10_lastWrite_8 rfl rfl ?_
    refine j_istore_n C dX10_lastWrite_9 rfl (by decide) rfl ?_
    exact j_vl (tX10_lastWrite_10 W C h 2000 a0 a1 hP hR) ⟨rfl, rfl, rfl, trivial⟩
  · have hP := hP.1 c0
    rw [if_pos c0] at hR
    refine j_iconst (v := 0) C dX10_lastWrite_6 (by decide) ?_
    exact hR _ _ dX10_lastWrite_7
theorem MX10_lastWrite {l0 : Launch} {Y : fj_Y} {ad : Nat → Nat} {n : Nat} {S : ph_S} {pr : Nat} (W : WS pr n S) (a0 : Int32) (a1 : Int32) (h : ph_H) (hP : PX10_lastWrite a0 a1 h) : MI l0 yX10_lastWrite cX10_lastWrite 4 (some .int) ({ frames := 0, cells := 0, slots := 0, locals := 0 } : Room) Y ad n S h [.ref (ad 35), .int a0, .int a1] (fun r S' h' => S' = S ∧ h' = h ∧ r = FX10_lastWrite a0 a1 h) := met_i (by decide) (Nat.le_of_ble_eq_true rfl) (fun _ _ _ _ => rfl) (fun X C K => j_vl (tX10_lastWrite W C a0 a1 h hP (fun pc lv hd => K _ _ _ ⟨rfl, rfl, rfl⟩ pc lv hd)) ⟨rfl, rfl, rfl, trivial⟩)

-- X11_last
def FX11_last (a0 : Int32) (a1 : Int32) (h : ph_H) : Int32 := if (h 0 8) = 0 then ((-2)) else (if (FX11_isMoment a1 h) = 0 then ((-1)) else ((FX10_lastWrite a0 a1 h)))
def PX11_last (a0 : Int32) (a1 : Int32) (h : ph_H) : Prop := ((h 0 8) = 0 → (True)) ∧ (¬ (h 0 8) = 0 → ((PX11_isMoment a1 h) ∧ (((FX11_isMoment a1 h) = 0 → (True)) ∧ (¬ (FX11_isMoment a1 h) = 0 → ((PX10_lastWrite a0 a1 h) ∧ (True))))))
set_option maxRecDepth 100000 in
set_option maxHeartbeats 4000000 in
theorem tX11_last {X : fj_X} {Y : fj_Y} {l0 : Launch} {ad : Nat → Nat} {n : Nat} {S : ph_S} {pr : Nat} (W : WS pr n S) (C : FC X Y l0 cX11_last 3 RX11 ({ frames := 1, cells := 0, slots := 0, locals := 23 } : Room) 0 0 (some .int)) (a0 : Int32) (a1 : Int32) (h : ph_H) (hP : PX11_last a0 a1 h) (hR : RETp X Y ad n S h cX11_last (FX11_last a0 a1 h)) : FJ X Y ad n S h 0 [(0, .ref (ad 0)), (1, .int a0), (2, .int a1)] [] := by
  unfold PX11_last at hP
  unfold FX11_last at hR
  refine j_aload_n C dX11_last_0 rfl rfl ?_
  refine gCRX11_116 (v := (h 0 8)) C dX11_last_1 (W.lt 0 (by decide)) (sh_0 W) rfl rfl ?_
  refine j_if_ne (tgt := 10) C dX11_last_4 (by decide) (fun c0 => ?_) (fun c0 => ?_)
  · have hP := hP.2 c0
    rw [if_neg c0] at hR
    refine j_aload_n C dX11_last_10 rfl rfl ?_
    refine j_iload_n C dX11_last_11 rfl rfl ?_
    obtain ⟨p2, hP⟩ := hP
    refine j_callV C (MX11_isMoment W a1 h p2) dX11_last_12 (CKX11_isMoment (by decide)) ⟨rfl, rfl⟩ lk_RX11_179 in_X11_isMoment se_X11_isMoment (W.lt 0 (by decide)) (sh_0 W) rfl rfl (Nat.le_of_ble_eq_true rfl) ?_
    intro r S' h' hq
    obtain ⟨e1, hh, e3, hb4⟩ := hq
    rw [e1, hh, e3]
    refine j_if_ne (tgt := 20) C dX11_last_15 (by decide) (fun c1 => ?_) (fun c1 => ?_)
    · have hP := hP.2 c1
      rw [if_neg c1] at hR
      refine j_aload_n C dX11_last_20 rfl rfl ?_
      refine gCRX11_34 C dX11_last_21 (W.lt 0 (by decide)) (sh_0 W) rfl ?_
      refine j_iload_n C dX11_last_24 rfl rfl ?_
      refine j_iload_n C dX11_last_25 rfl rfl ?_
      obtain ⟨p4, hP⟩ := hP
      refine j_callV C (MX10_lastWrite W a0 a1 h p4) dX11_last_26 (CKX10_lastWrite (by decide)) ⟨rfl, rfl⟩ lk_RX11_237 in_X10_lastWrite se_X10_lastWrite (W.lt 35 (by decide)) (sh_35 W) rfl rfl (Nat.le_of_ble_eq_true rfl) ?_
      intro r S' h' hq
      obtain ⟨e1, hh, e3⟩ := hq
      rw [e1, hh, e3]
      exact hR _ _ dX11_last_29
    · have hP := hP.1 c1
      rw [if_pos c1] at hR
      refine j_iconst (v := (-1)) C dX11_last_18 (by decide) ?_
      exact hR _ _ dX11_last_19
  · have hP := hP.1 c0
    rw [if_pos c0] at hR
    refine j_bipush (v := (-2)) C dX11_last_7 (by decide) ?_
    exact hR _ _ dX11_last_9
theorem MX11_last {l0 : Launch} {Y : fj_Y} {ad : Nat → Nat} {n : Nat} {S : ph_S} {pr : Nat} (W : WS pr n S) (a0 : Int32) (a1 : Int32) (h : ph_H) (hP : PX11_last a0 a1 h) : MI l0 yX11_last cX11_last 3 (some .int) ({ frames := 1, cells := 0, slots := 0, locals := 23 } : Room) Y ad n S h [.ref (ad 0), .int a0, .int a1] (fun r S' h' => S' = S ∧ h' = h ∧ r = FX11_last a0 a1 h) := met_i (by decide) (Nat.le_of_ble_eq_true rfl) (fun _ _ _ _ => rfl) (fun X C K => j_vl (tX11_last W C a0 a1 h hP (fun pc lv hd => K _ _ _ ⟨rfl, rfl, rfl⟩ pc lv hd)) ⟨rfl, rfl, rfl, trivial⟩)

-- X10_nextRead
def FX10_nextRead_12  : Nat → Int32 → Int32 → ph_H → Int32
  | 0, _, _, _ => 0
  | q + 1, x1, x3, h => if (h 35 11) < x3 then (0) else (if (h 39 (x3.toNatClampNeg)) = x1 then (x3) else (FX10_nextRead_12  q x1 (x3 + 1) h))
def PX10_nextRead_12  : Nat → Int32 → Int32 → ph_H → Prop
  | 0, _, _, _ => False
  | q + 1, x1, x3, h => ((h 35 11) < x3 → (True)) ∧ (¬ (h 35 11) < x3 → (vp_in x3 301 ∧ (((h 39 (x3.toNatClampNeg)) = x1 → (True)) ∧ (¬ (h 39 (x3.toNatClampNeg)) = x1 → (PX10_nextRead_12  q x1 (x3 + 1) h)))))
set_option maxRecDepth 100000 in
set_option maxHeartbeats 4000000 in
theorem tX10_nextRead_12 {X : fj_X} {Y : fj_Y} {l0 : Launch} {ad : Nat → Nat} {n : Nat} {S : ph_S} {pr : Nat} (W : WS pr n S) (C : FC X Y l0 cX10_nextRead 4 RX10 ({ frames := 0, cells := 0, slots := 0, locals := 0 } : Room) 0 0 (some .int)) (h : ph_H) : ∀ (q : Nat) (x1 : Int32) (x3 : Int32), PX10_nextRead_12  q x1 x3 h → RETp X Y ad n S h cX10_nextRead (FX10_nextRead_12  q x1 x3 h) → FJ X Y ad n S h 12 [(0, .ref (ad 35)), (1, .int x1), (3, .int x3)] [] := by
  intro q
  induction q with
  | zero =>
    intro x1 x3 hP hR
    exact absurd hP id
  | succ q ih =>
    intro x1 x3 hP hR
    unfold PX10_nextRead_12 at hP
    unfold FX10_nextRead_12 at hR
    refine j_iload_n C dX10_nextRead_12 rfl rfl ?_
    refine j_aload_n C dX10_nextRead_13 rfl rfl ?_
    refine gCRX10_45 (v := (h 35 11)) C dX10_nextRead_14 (W.lt 35 (by decide)) (sh_35 W) rfl rfl ?_
    refine j_icmp_gt (tgt := 38) C dX10_nextRead_17 (by decide) (fun c0 => ?_) (fun c0 => ?_)
    · have hP := hP.1 c0
      rw [if_pos c0] at hR
      refine j_iconst (v := 0) C dX10_nextRead_38 (by decide) ?_
      exact hR _ _ dX10_nextRead_39
    · have hP := hP.2 c0
      rw [if_neg c0] at hR
      refine j_aload_n C dX10_nextRead_20 rfl rfl ?_
      refine gCRX10_21 C dX10_nextRead_21 (W.lt 35 (by decide)) (sh_35 W) rfl ?_
      refine j_iload_n C dX10_nextRead_24 rfl rfl ?_
      obtain ⟨p3, hP⟩ := hP
      refine j_iald (k := 39) (v := (h 39 (x3.toNatClampNeg))) C dX10_nextRead_25 (W.lt 39 (by decide)) (sh_39 W) p3 rfl ?_
      refine j_iload_n C dX10_nextRead_26 rfl rfl ?_
      refine j_icmp_ne (tgt := 32) C dX10_nextRead_27 (by decide) (fun c1 => ?_) (fun c1 => ?_)
      · have hP := hP.2 c1
        rw [if_neg c1] at hR
        refine j_iinc (v := (x3 + 1)) C dX10_nextRead_32 rfl rfl (by decide) rfl ?_
        refine j_goto (tgt := 12) C dX10_nextRead_35 (by decide) ?_
        exact j_vl (ih x1 (x3 + 1) hP hR) ⟨rfl, rfl, rfl, trivial⟩
      · have hP := hP.1 c1
        rw [if_pos c1] at hR
        refine j_iload_n C dX10_nextRead_30 rfl rfl ?_
        exact hR _ _ dX10_nextRead_31
def FX10_nextRead (a0 : Int32) (a1 : Int32) (h : ph_H) : Int32 := if a0 = (-2) then (0) else (FX10_nextRead_12 2000 a0 (a1 + 1) h)
def PX10_nextRead (a0 : Int32) (a1 : Int32) (h : ph_H) : Prop := (a0 = (-2) → (True)) ∧ (¬ a0 = (-2) → (PX10_nextRead_12 2000 a0 (a1 + 1) h))
set_option maxRecDepth 100000 in
set_option maxHeartbeats 4000000 in
theorem tX10_nextRead {X : fj_X} {Y : fj_Y} {l0 : Launch} {ad : Nat → Nat} {n : Nat} {S : ph_S} {pr : Nat} (W : WS pr n S) (C : FC X Y l0 cX10_nextRead 4 RX10 ({ frames := 0, cells := 0, slots := 0, locals := 0 } : Room) 0 0 (some .int)) (a0 : Int32) (a1 : Int32) (h : ph_H) (hP : PX10_nextRead a0 a1 h) (hR : RETp X Y ad n S h cX10_nextRead (FX10_nextRead a0 a1 h)) : FJ X Y ad n S h 0 [(0, .ref (ad 35)), (1, .int a0), (2, .int a1)] [] := by
  unfold PX10_nextRead at hP
  unfold FX10_nextRead at hR
  refine j_iload_n C dX10_nextRead_0 rfl rfl ?_
  refine j_bipush (v := (-2)) C dX10_nextRead_1 (by decide) ?_
  refine j_icmp_ne (tgt := 8) C dX10_nextRead_3 (by decide) (fun c0 => ?_) (fun c0 => ?_)
  · have hP := hP.2 c0
    rw [if_neg c0] at hR
    refine j_iload_n C dX10_nextRead_8 rfl rfl ?_
    refine j_iconst (v := 1) C dX10_nextRead_9 (by decide) ?_
    refine j_iadd C dX10_nextRead_10 ?_
    refine j_istore_n C dX10_nextRead_11 rfl (by decide) rfl ?_
    exact j_vl (tX10_nextRead_12 W C h 2000 a0 (a1 + 1) hP hR) ⟨rfl, rfl, rfl, trivial⟩
  · have hP := hP.1 c0
    rw [if_pos c0] at hR
    refine j_iconst (v := 0) C dX10_nextRead_6 (by decide) ?_
    exact hR _ _ dX10_nextRead_7
theorem MX10_nextRead {l0 : Launch} {Y : fj_Y} {ad : Nat → Nat} {n : Nat} {S : ph_S} {pr : Nat} (W : WS pr n S) (a0 : Int32) (a1 : Int32) (h : ph_H) (hP : PX10_nextRead a0 a1 h) : MI l0 yX10_nextRead cX10_nextRead 4 (some .int) ({ frames := 0, cells := 0, slots := 0, locals := 0 } : Room) Y ad n S h [.ref (ad 35), .int a0, .int a1] (fun r S' h' => S' = S ∧ h' = h ∧ r = FX10_nextRead a0 a1 h) := met_i (by decide) (Nat.le_of_ble_eq_true rfl) (fun _ _ _ _ => rfl) (fun X C K => j_vl (tX10_nextRead W C a0 a1 h hP (fun pc lv hd => K _ _ _ ⟨rfl, rfl, rfl⟩ pc lv hd)) ⟨rfl, rfl, rfl, trivial⟩)
