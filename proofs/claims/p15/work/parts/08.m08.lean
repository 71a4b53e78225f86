-- X12_isOver
def FX12_isOver_103  (h : ph_H) : Int32 × ph_H := (1, h)
def PX12_isOver_103  (h : ph_H) : Prop := True
set_option maxRecDepth 100000 in
set_option maxHeartbeats 4000000 in
theorem tX12_isOver_103 {X : fj_X} {Y : fj_Y} {l0 : Launch} {ad : Nat → Nat} (C : FC X Y l0 cX12_isOver 2 RX12 ({ frames := 0, cells := 0, slots := 0, locals := 0 } : Room) 0 0 (some .boolean)) (h : ph_H) (hP : PX12_isOver_103  h) (hR : RETz X Y ad 50 SM cX12_isOver (FX12_isOver_103  h)) : FJ X Y ad 50 SM h 103 [] [] := by
  unfold PX12_isOver_103 at hP
  unfold FX12_isOver_103 at hR
  refine j_iconst (v := 1) C dX12_isOver_103 (by decide) ?_
  refine j_goto (tgt := 108) C dX12_isOver_104 (by decide) ?_
  exact hR bo_1 _ _ dX12_isOver_108
def FX12_isOver_85  (h : ph_H) : Int32 × ph_H := if 0 < (h 0 69) then (FX12_isOver_103  h) else (if (h 0 67) = (h 0 68) then (FX12_isOver_103  h) else ((0, h)))
def PX12_isOver_85  (h : ph_H) : Prop := (0 < (h 0 69) → (PX12_isOver_103  h)) ∧ (¬ 0 < (h 0 69) → (((h 0 67) = (h 0 68) → (PX12_isOver_103  h)) ∧ (¬ (h 0 67) = (h 0 68) → (True))))
set_option maxRecDepth 100000 in
set_option maxHeartbeats 4000000 in
theorem tX12_isOver_85 {X : fj_X} {Y : fj_Y} {l0 : Launch} {ad : Nat → Nat} (C : FC X Y l0 cX12_isOver 2 RX12 ({ frames := 0, cells := 0, slots := 0, locals := 0 } : Room) 0 0 (some .boolean)) (h : ph_H) (hP : PX12_isOver_85  h) (hR : RETz X Y ad 50 SM cX12_isOver (FX12_isOver_85  h)) : FJ X Y ad 50 SM h 85 [(0, .ref (ad 0))] [] := by
  unfold PX12_isOver_85 at hP
  unfold FX12_isOver_85 at hR
  refine j_aload_n C dX12_isOver_85 rfl rfl ?_
  refine gM_346 (v := (h 0 69)) C dX12_isOver_86 rfl ?_
  refine j_if_gt (tgt := 103) C dX12_isOver_89 (by decide) (fun c0 => ?_) (fun c0 => ?_)
  · have hP := hP.1 c0
    rw [if_pos c0] at hR
    exact j_vl (tX12_isOver_103 C  h hP hR) trivial
  · have hP := hP.2 c0
    rw [if_neg c0] at hR
    refine j_aload_n C dX12_isOver_92 rfl rfl ?_
    refine gM_343 (v := (h 0 67)) C dX12_isOver_93 rfl ?_
    refine j_aload_n C dX12_isOver_96 rfl rfl ?_
    refine gM_355 (v := (h 0 68)) C dX12_isOver_97 rfl ?_
    refine j_icmp_ne (tgt := 107) C dX12_isOver_100 (by decide) (fun c1 => ?_) (fun c1 => ?_)
    · have hP := hP.2 c1
      rw [if_neg c1] at hR
      refine j_iconst (v := 0) C dX12_isOver_107 (by decide) ?_
      exact hR bo_0 _ _ dX12_isOver_108
    · have hP := hP.1 c1
      rw [if_pos c1] at hR
      exact j_vl (tX12_isOver_103 C  h hP hR) trivial
def FX12_isOver_42  : Nat → Int32 → ph_H → Int32 × ph_H
  | 0, _, h => (0, h)
  | q + 1, x1, h => if 2 ≤ x1 then (FX12_isOver_85  (hs h 0 73 (h 0 25))) else (FX12_isOver_42  q (x1 + 1) (hs (hs h 40 x1.toNatClampNeg (h 42 (x1.toNatClampNeg))) 41 x1.toNatClampNeg (h 43 (x1.toNatClampNeg))))
def PX12_isOver_42  : Nat → Int32 → ph_H → Prop
  | 0, _, _ => False
  | q + 1, x1, h => (2 ≤ x1 → (PX12_isOver_85  (hs h 0 73 (h 0 25)))) ∧ (¬ 2 ≤ x1 → (vp_in x1 2 ∧ (vp_in x1 2 ∧ (vp_in x1 2 ∧ (vp_in x1 2 ∧ (PX12_isOver_42  q (x1 + 1) (hs (hs h 40 x1.toNatClampNeg (h 42 (x1.toNatClampNeg))) 41 x1.toNatClampNeg (h 43 (x1.toNatClampNeg)))))))))
set_option maxRecDepth 100000 in
set_option maxHeartbeats 4000000 in
theorem tX12_isOver_42 {X : fj_X} {Y : fj_Y} {l0 : Launch} {ad : Nat → Nat} (C : FC X Y l0 cX12_isOver 2 RX12 ({ frames := 0, cells := 0, slots := 0, locals := 0 } : Room) 0 0 (some .boolean)) : ∀ (q : Nat) (x1 : Int32) (h : ph_H), PX12_isOver_42  q x1 h → RETz X Y ad 50 SM cX12_isOver (FX12_isOver_42  q x1 h) → FJ X Y ad 50 SM h 42 [(0, .ref (ad 0)), (1, .int x1)] [] := by
  intro q
  induction q with
  | zero =>
    intro x1 h hP hR
    exact absurd hP id
  | succ q ih =>
    intro x1 h hP hR
    unfold PX12_isOver_42 at hP
    unfold FX12_isOver_42 at hR
    refine j_iload_n C dX12_isOver_42 rfl rfl ?_
    refine j_iconst (v := 2) C dX12_isOver_43 (by decide) ?_
    refine j_icmp_ge (tgt := 77) C dX12_isOver_44 (by decide) (fun c0 => ?_) (fun c0 => ?_)
    · have hP := hP.1 c0
      rw [if_pos c0] at hR
      refine j_aload_n C dX12_isOver_77 rfl rfl ?_
      refine j_aload_n C dX12_isOver_78 rfl rfl ?_
      refine gM_194 (v := (h 0 25)) C dX12_isOver_79 rfl ?_
      refine pM_352 C dX12_isOver_82 ?_
      exact j_vl (tX12_isOver_85 C  (hs h 0 73 (h 0 25)) hP hR) ⟨rfl, trivial⟩
    · have hP := hP.2 c0
      rw [if_neg c0] at hR
      refine j_aload_n C dX12_isOver_47 rfl rfl ?_
      refine gM_134 C dX12_isOver_48 ?_
      refine j_iload_n C dX12_isOver_51 rfl rfl ?_
      refine j_aload_n C dX12_isOver_52 rfl rfl ?_
      refine gM_140 C dX12_isOver_53 ?_
      refine j_iload_n C dX12_isOver_56 rfl rfl ?_
      obtain ⟨p6, hP⟩ := hP
      refine j_iald (k := 42) (v := (h 42 (x1.toNatClampNeg))) C dX12_isOver_57 (by decide) rfl p6 rfl ?_
      obtain ⟨p8, hP⟩ := hP
      refine j_iast (k := 40) C dX12_isOver_58 (by decide) rfl p8 ?_
      refine j_aload_n C dX12_isOver_59 rfl rfl ?_
      refine gM_137 C dX12_isOver_60 ?_
      refine j_iload_n C dX12_isOver_63 rfl rfl ?_
      refine j_aload_n C dX12_isOver_64 rfl rfl ?_
      refine gM_143 C dX12_isOver_65 ?_
      refine j_iload_n C dX12_isOver_68 rfl rfl ?_
      obtain ⟨p16, hP⟩ := hP
      refine j_iald (k := 43) (v := (h 43 (x1.toNatClampNeg))) C dX12_isOver_69 (by decide) rfl p16 (hz_k (by decide)) ?_
      obtain ⟨p18, hP⟩ := hP
      refine j_iast (k := 41) C dX12_isOver_70 (by decide) rfl p18 ?_
      refine j_iinc (v := (x1 + 1)) C dX12_isOver_71 rfl rfl (by decide) rfl ?_
      refine j_goto (tgt := 42) C dX12_isOver_74 (by decide) ?_
      exact j_vl (ih (x1 + 1) (hs (hs h 40 x1.toNatClampNeg (h 42 (x1.toNatClampNeg))) 41 x1.toNatClampNeg (h 43 (x1.toNatClampNeg))) hP hR) ⟨rfl, rfl, trivial⟩
def FX12_isOver (h : ph_H) : Int32 × ph_H := if (h 0 25) ≤ 0 then (FX12_isOver_85  (hs h 0 67 ((h 0 67) + 1))) else (if (h 0 69) = 0 then (FX12_isOver_42 2000 0 (hs (hs (hs h 0 67 ((h 0 67) + 1)) 0 69 ((h 0 67) + 1)) 0 70 (h 0 74))) else (FX12_isOver_85  (hs h 0 67 ((h 0 67) + 1))))
def PX12_isOver (h : ph_H) : Prop := ((h 0 25) ≤ 0 → (PX12_isOver_85  (hs h 0 67 ((h 0 67) + 1)))) ∧ (¬ (h 0 25) ≤ 0 → (((h 0 69) = 0 → (PX12_isOver_42 2000 0 (hs (hs (hs h 0 67 ((h 0 67) + 1)) 0 69 ((h 0 67) + 1)) 0 70 (h 0 74)))) ∧ (¬ (h 0 69) = 0 → (PX12_isOver_85  (hs h 0 67 ((h 0 67) + 1))))))
set_option maxRecDepth 100000 in
set_option maxHeartbeats 4000000 in
theorem tX12_isOver {X : fj_X} {Y : fj_Y} {l0 : Launch} {ad : Nat → Nat} (C : FC X Y l0 cX12_isOver 2 RX12 ({ frames := 0, cells := 0, slots := 0, locals := 0 } : Room) 0 0 (some .boolean)) (h : ph_H) (hP : PX12_isOver h) (hR : RETz X Y ad 50 SM cX12_isOver (FX12_isOver h)) : FJ X Y ad 50 SM h 0 [(0, .ref (ad 0))] [] := by
  unfold PX12_isOver at hP
  unfold FX12_isOver at hR
  refine j_aload_n C dX12_isOver_0 rfl rfl ?_
  refine j_dup C dX12_isOver_1 rfl ?_
  refine gM_343 (v := (h 0 67)) C dX12_isOver_2 rfl ?_
  refine j_iconst (v := 1) C dX12_isOver_5 (by decide) ?_
  refine j_iadd C dX12_isOver_6 ?_
  refine pM_343 C dX12_isOver_7 ?_
  refine j_aload_n C dX12_isOver_10 rfl rfl ?_
  refine gM_194 (v := (h 0 25)) C dX12_isOver_11 (hz_i (by decide)) ?_
  refine j_if_le (tgt := 85) C dX12_isOver_14 (by decide) (fun c0 => ?_) (fun c0 => ?_)
  · have hP := hP.1 c0
    rw [if_pos c0] at hR
    exact j_vl (tX12_isOver_85 C  (hs h 0 67 ((h 0 67) + 1)) hP hR) ⟨rfl, trivial⟩
  · have hP := hP.2 c0
    rw [if_neg c0] at hR
    refine j_aload_n C dX12_isOver_17 rfl rfl ?_
    refine gM_346 (v := (h 0 69)) C dX12_isOver_18 (hz_i (by decide)) ?_
    refine j_if_ne (tgt := 85) C dX12_isOver_21 (by decide) (fun c1 => ?_) (fun c1 => ?_)
    · have hP := hP.2 c1
      rw [if_neg c1] at hR
      exact j_vl (tX12_isOver_85 C  (hs h 0 67 ((h 0 67) + 1)) hP hR) ⟨rfl, trivial⟩
    · have hP := hP.1 c1
      rw [if_pos c1] at hR
      refine j_aload_n C dX12_isOver_24 rfl rfl ?_
      refine j_aload_n C dX12_isOver_25 rfl rfl ?_
      refine gM_343 (v := ((h 0 67) + 1)) C dX12_isOver_26 (hz_e) ?_
      refine pM_346 C dX12_isOver_29 ?_
      refine j_aload_n C dX12_isOver_32 rfl rfl ?_
      refine j_aload_n C dX12_isOver_33 rfl rfl ?_
      refine gM_340 (v := (h 0 74)) C dX12_isOver_34 ((hz_i (by decide)).trans (hz_i (by decide))) ?_
      refine pM_349 C dX12_isOver_37 ?_
      refine j_iconst (v := 0) C dX12_isOver_40 (by decide) ?_
      refine j_istore_n C dX12_isOver_41 rfl (by decide) rfl ?_
      exact j_vl (tX12_isOver_42 C 2000 0 (hs (hs (hs h 0 67 ((h 0 67) + 1)) 0 69 ((h 0 67) + 1)) 0 70 (h 0 74)) hP hR) ⟨rfl, rfl, trivial⟩
theorem MX12_isOver {l0 : Launch} {Y : fj_Y} {ad : Nat → Nat} (h : ph_H) (hP : PX12_isOver h) : MI l0 yX12_isOver cX12_isOver 2 (some .boolean) ({ frames := 0, cells := 0, slots := 0, locals := 0 } : Room) Y ad 50 SM h [.ref (ad 0)] (fun r S' h' => S' = SM ∧ h' = (FX12_isOver h).2 ∧ r = (FX12_isOver h).1 ∧ bo r) := met_i (by decide) (Nat.le_of_ble_eq_true rfl) (fun _ _ _ q => bo_n q.2.2.2) (fun X C K => j_vl (tX12_isOver C h hP (fun b pc lv hd => K _ _ _ ⟨rfl, rfl, rfl, b⟩ pc lv hd)) ⟨rfl, trivial⟩)

-- X12_tryLast
def FX12_tryLast_57 (L3 : Int32 → Int32 → Int32 → ph_H → Int32 × ph_H) (L12 : Int32 → Int32 → Int32 → Int32 → ph_H → Int32 × ph_H) (x1 : Int32) (x3 : Int32) (x4 : Int32) (x5 : Int32) (h : ph_H) : Int32 × ph_H := L12 x1 x3 x4 (x5 + 1) h
def PX12_tryLast_57 (LP3 : Int32 → Int32 → Int32 → ph_H → Prop) (LP12 : Int32 → Int32 → Int32 → Int32 → ph_H → Prop) (x1 : Int32) (x3 : Int32) (x4 : Int32) (x5 : Int32) (h : ph_H) : Prop := LP12 x1 x3 x4 (x5 + 1) h
set_option maxRecDepth 100000 in
set_option maxHeartbeats 4000000 in
theorem tX12_tryLast_57 {X : fj_X} {Y : fj_Y} {l0 : Launch} {ad : Nat → Nat} (C : FC X Y l0 cX12_tryLast 6 RX12 ({ frames := 5, cells := 0, slots := 0, locals := 122 } : Room) 0 0 (some .boolean)) (L3 : Int32 → Int32 → Int32 → ph_H → Int32 × ph_H) (LP3 : Int32 → Int32 → Int32 → ph_H → Prop) (hL3 : ∀ (x1 : Int32) (x3 : Int32) (x4 : Int32) (h : ph_H), LP3 x1 x3 x4 h → RETz X Y ad 50 SM cX12_tryLast (L3 x1 x3 x4 h) → FJ X Y ad 50 SM h 3 [(0, .ref (ad 0)), (1, .int x1), (3, .int x3), (4, .int x4)] []) (L12 : Int32 → Int32 → Int32 → Int32 → ph_H → Int32 × ph_H) (LP12 : Int32 → Int32 → Int32 → Int32 → ph_H → Prop) (hL12 : ∀ (x1 : Int32) (x3 : Int32) (x4 : Int32) (x5 : Int32) (h : ph_H), LP12 x1 x3 x4 x5 h → RETz X Y ad 50 SM cX12_tryLast (L12 x1 x3 x4 x5 h) → FJ X Y ad 50 SM h 12 [(0, .ref (ad 0)), (1, .int x1), (3, .int x3), (4, .int x4), (5, .int x5)] []) (x1 : Int32) (x3 : Int32) (x4 : Int32) (x5 : Int32) (h : ph_H) (hP : PX12_tryLast_57 LP3 LP12 x1 x3 x4 x5 h) (hR : RETz X Y ad 50 SM cX12_tryLast (FX12_tryLast_57 L3 L12 x1 x3 x4 x5 h)) : FJ X Y ad 50 SM h 57 [(0, .ref (ad 0)), (1, .int x1), (3, .int x3), (4, .int x4), (5, .int x5)] [] := by
  unfold PX12_tryLast_57 at hP
  unfold FX12_tryLast_57 at hR
  refine j_iinc (v := (x5 + 1)) C dX12_tryLast_57 rfl rfl (by decide) rfl ?_
  refine j_goto (tgt := 12) C dX12_tryLast_60 (by decide) ?_
  exact j_vl (hL12 x1 x3 x4 (x5 + 1) h hP hR) ⟨rfl, rfl, rfl, rfl, rfl, trivial⟩
def FX12_tryLast_52 (L3 : Int32 → Int32 → Int32 → ph_H → Int32 × ph_H) (L12 : Int32 → Int32 → Int32 → Int32 → ph_H → Int32 × ph_H) (x1 : Int32) (x3 : Int32) (x4 : Int32) (x5 : Int32) (s0 : Int32) (h : ph_H) : Int32 × ph_H := if s0 = 0 then (FX12_tryLast_57 L3 L12 x1 x3 x4 x5 h) else ((1, h))
def PX12_tryLast_52 (LP3 : Int32 → Int32 → Int32 → ph_H → Prop) (LP12 : Int32 → Int32 → Int32 → Int32 → ph_H → Prop) (x1 : Int32) (x3 : Int32) (x4 : Int32) (x5 : Int32) (s0 : Int32) (h : ph_H) : Prop := (s0 = 0 → (PX12_tryLast_57 LP3 LP12 x1 x3 x4 x5 h)) ∧ (¬ s0 = 0 → (True))
set_option maxRecDepth 100000 in
set_option maxHeartbeats 4000000 in
theorem tX12_tryLast_52 {X : fj_X} {Y : fj_Y} {l0 : Launch} {ad : Nat → Nat} (C : FC X Y l0 cX12_tryLast 6 RX12 ({ frames := 5, cells := 0, slots := 0, locals := 122 } : Room) 0 0 (some .boolean)) (L3 : Int32 → Int32 → Int32 → ph_H → Int32 × ph_H) (LP3 : Int32 → Int32 → Int32 → ph_H → Prop) (hL3 : ∀ (x1 : Int32) (x3 : Int32) (x4 : Int32) (h : ph_H), LP3 x1 x3 x4 h → RETz X Y ad 50 SM cX12_tryLast (L3 x1 x3 x4 h) → FJ X Y ad 50 SM h 3 [(0, .ref (ad 0)), (1, .int x1), (3, .int x3), (4, .int x4)] []) (L12 : Int32 → Int32 → Int32 → Int32 → ph_H → Int32 × ph_H) (LP12 : Int32 → Int32 → Int32 → Int32 → ph_H → Prop) (hL12 : ∀ (x1 : Int32) (x3 : Int32) (x4 : Int32) (x5 : Int32) (h : ph_H), LP12 x1 x3 x4 x5 h → RETz X Y ad 50 SM cX12_tryLast (L12 x1 x3 x4 x5 h) → FJ X Y ad 50 SM h 12 [(0, .ref (ad 0)), (1, .int x1), (3, .int x3), (4, .int x4), (5, .int x5)] []) (x1 : Int32) (x3 : Int32) (x4 : Int32) (x5 : Int32) (s0 : Int32) (h : ph_H) (hP : PX12_tryLast_52 LP3 LP12 x1 x3 x4 x5 s0 h) (hR : RETz X Y ad 50 SM cX12_tryLast (FX12_tryLast_52 L3 L12 x1 x3 x4 x5 s0 h)) : FJ X Y ad 50 SM h 52 [(0, .ref (ad 0)), (1, .int x1), (3, .int x3), (4, .int x4), (5, .int x5)] [.int s0] := by
  unfold PX12_tryLast_52 at hP
  unfold FX12_tryLast_52 at hR
  refine j_if_eq (tgt := 57) C dX12_tryLast_52 (by decide) (fun c0 => ?_) (fun c0 => ?_)
  · have hP := hP.1 c0
    rw [if_pos c0] at hR
    exact j_vl (tX12_tryLast_57 C L3 LP3 hL3 L12 LP12 hL12 x1 x3 x4 x5 h hP hR) ⟨rfl, rfl, rfl, rfl, rfl, trivial⟩
  · have hP := hP.2 c0
    rw [if_neg c0] at hR
    refine j_iconst (v := 1) C dX12_tryLast_55 (by decide) ?_
    exact hR bo_1 _ _ dX12_tryLast_56
def FX12_tryLast_45 (L3 : Int32 → Int32 → Int32 → ph_H → Int32 × ph_H) (L12 : Int32 → Int32 → Int32 → Int32 → ph_H → Int32 × ph_H) (x1 : Int32) (x3 : Int32) (x4 : Int32) (x5 : Int32) (s0 : Int32) (h : ph_H) : Int32 × ph_H := if s0 = 0 then (FX12_tryLast_57 L3 L12 x1 x3 x4 x5 h) else (FX12_tryLast_52 L3 L12 x1 x3 x4 x5 ((FX12_isOver h).1) ((FX12_isOver h).2))
def PX12_tryLast_45 (LP3 : Int32 → Int32 → Int32 → ph_H → Prop) (LP12 : Int32 → Int32 → Int32 → Int32 → ph_H → Prop) (x1 : Int32) (x3 : Int32) (x4 : Int32) (x5 : Int32) (s0 : Int32) (h : ph_H) : Prop := (s0 = 0 → (PX12_tryLast_57 LP3 LP12 x1 x3 x4 x5 h)) ∧ (¬ s0 = 0 → ((PX12_isOver h) ∧ (PX12_tryLast_52 LP3 LP12 x1 x3 x4 x5 ((FX12_isOver h).1) ((FX12_isOver h).2))))
set_option maxRecDepth 100000 in
set_option maxHeartbeats 4000000 in
theorem tX12_tryLast_45 {X : fj_X} {Y : fj_Y} {l0 : Launch} {ad : Nat → Nat} (C : FC X Y l0 cX12_tryLast 6 RX12 ({ frames := 5, cells := 0, slots := 0, locals := 122 } : Room) 0 0 (some .boolean)) (L3 : Int32 → Int32 → Int32 → ph_H → Int32 × ph_H) (LP3 : Int32 → Int32 → Int32 → ph_H → Prop) (hL3 : ∀ (x1 : Int32) (x3 : Int32) (x4 : Int32) (h : ph_H), LP3 x1 x3 x4 h → RETz X Y ad 50 SM cX12_tryLast (L3 x1 x3 x4 h) → FJ X Y ad 50 SM h 3 [(0, .ref (ad 0)), (1, .int x1), (3, .int x3), (4, .int x4)] []) (L12 : Int32 → Int32 → Int32 → Int32 → ph_H → Int32 × ph_H) (LP12 : Int32 → Int32 → Int32 → Int32 → ph_H → Prop) (hL12 : ∀ (x1 : Int32) (x3 : Int32) (x4 : Int32) (x5 : Int32) (h : ph_H), LP12 x1 x3 x4 x5 h → RETz X Y ad 50 SM cX12_tryLast (L12 x1 x3 x4 x5 h) → FJ X Y ad 50 SM h 12 [(0, .ref (ad 0)), (1, .int x1), (3, .int x3), (4, .int x4), (5, .int x5)] []) (x1 : Int32) (x3 : Int32) (x4 : Int32) (x5 : Int32) (s0 : Int32) (h : ph_H) (hP : PX12_tryLast_45 LP3 LP12 x1 x3 x4 x5 s0 h) (hR : RETz X Y ad 50 SM cX12_tryLast (FX12_tryLast_45 L3 L12 x1 x3 x4 x5 s0 h)) : FJ X Y ad 50 SM h 45 [(0, .ref (ad 0)), (1, .int x1), (3, .int x3), (4, .int x4), (5, .int x5)] [.int s0] := by
  unfold PX12_tryLast_45 at hP
  unfold FX12_tryLast_45 at hR
  refine j_if_eq (tgt := 57) C dX12_tryLast_45 (by decide) (fun c0 => ?_) (fun c0 => ?_)
  · have hP := hP.1 c0
    rw [if_pos c0] at hR
    exact j_vl (tX12_tryLast_57 C L3 LP3 hL3 L12 LP12 hL12 x1 x3 x4 x5 h hP hR) ⟨rfl, rfl, rfl, rfl, rfl, trivial⟩
  · have hP := hP.2 c0
    rw [if_neg c0] at hR
    refine j_aload_n C dX12_tryLast_48 rfl rfl ?_
    obtain ⟨p1, hP⟩ := hP
    refine j_callV C (MX12_isOver h p1) dX12_tryLast_49 (CKX12_isOver (by decide)) ⟨rfl, rfl⟩ lk_RX12_362 in_X12_isOver se_X12_isOver (by decide) rfl rfl rfl (Nat.le_of_ble_eq_true rfl) ?_
    intro r S' h' hq
    obtain ⟨e1, e2, e3, hb3⟩ := hq
    have e2 := e2.symm
    have e3 := e3.symm
    subst e1
    subst e2
    subst e3
    exact j_vl (tX12_tryLast_52 C L3 LP3 hL3 L12 LP12 hL12 x1 x3 x4 x5 ((FX12_isOver h).1) ((FX12_isOver h).2) hP hR) ⟨rfl, rfl, rfl, rfl, rfl, trivial⟩
def FX12_tryLast_12 (L3 : Int32 → Int32 → Int32 → ph_H → Int32 × ph_H) : Nat → Int32 → Int32 → Int32 → Int32 → ph_H → Int32 × ph_H
  | 0, _, _, _, _, h => (0, h)
  | q + 1, x1, x3, x4, x5, h => if 4 ≤ x5 then (L3 x1 x3 (x4 + 1) h) else (FX12_tryLast_45 L3 (FX12_tryLast_12 L3 q) x1 x3 x4 x5 ((FX12_tryRun (hs (hs (hs h 0 74 (x1 + 1)) 42 x1.toNatClampNeg x4) 43 x1.toNatClampNeg x5)).1) ((FX12_tryRun (hs (hs (hs h 0 74 (x1 + 1)) 42 x1.toNatClampNeg x4) 43 x1.toNatClampNeg x5)).2))
def PX12_tryLast_12 (LP3 : Int32 → Int32 → Int32 → ph_H → Prop) : Nat → Int32 → Int32 → Int32 → Int32 → ph_H → Prop
  | 0, _, _, _, _, _ => False
  | q + 1, x1, x3, x4, x5, h => (4 ≤ x5 → (LP3 x1 x3 (x4 + 1) h)) ∧ (¬ 4 ≤ x5 → (vp_in x1 2 ∧ (vp_in x1 2 ∧ ((PX12_tryRun (hs (hs (hs h 0 74 (x1 + 1)) 42 x1.toNatClampNeg x4) 43 x1.toNatClampNeg x5)) ∧ (PX12_tryLast_45 LP3 (PX12_tryLast_12 LP3 q) x1 x3 x4 x5 ((FX12_tryRun (hs (hs (hs h 0 74 (x1 + 1)) 42 x1.toNatClampNeg x4) 43 x1.toNatClampNeg x5)).1) ((FX12_tryRun (hs (hs (hs h 0 74 (x1 + 1)) 42 x1.toNatClampNeg x4) 43 x1.toNatClampNeg x5)).2))))))
set_option maxRecDepth 100000 in
set_option maxHeartbeats 4000000 in
theorem tX12_tryLast_12 {X : fj_X} {Y : fj_Y} {l0 : Launch} {ad : Nat → Nat} (C : FC X Y l0 cX12_tryLast 6 RX12 ({ frames := 5, cells := 0, slots := 0, locals := 122 } : Room) 0 0 (some .boolean)) (L3 : Int32 → Int32 → Int32 → ph_H → Int32 × ph_H) (LP3 : Int32 → Int32 → Int32 → ph_H → Prop) (hL3 : ∀ (x1 : Int32) (x3 : Int32) (x4 : Int32) (h : ph_H), LP3 x1 x3 x4 h → RETz X Y ad 50 SM cX12_tryLast (L3 x1 x3 x4 h) → FJ X Y ad 50 SM h 3 [(0, .ref (ad 0)), (1, .int x1), (3, .int x3), (4, .int x4)] []) : ∀ (q : Nat) (x1 : Int32) (x3 : Int32) (x4 : Int32) (x5 : Int32) (h : ph_H), PX12_tryLast_12 LP3 q x1 x3 x4 x5 h → RETz X Y ad 50 SM cX12_tryLast (FX12_tryLast_12 L3 q x1 x3 x4 x5 h) → FJ X Y ad 50 SM h 12 [(0, .ref (ad 0)), (1, .int x1), (3, .int x3), (4, .int x4), (5, .int x5)] [] := by
  intro q
  induction q with
  | zero =>
    intro x1 x3 x4 x5 h hP hR
    exact absurd hP id
  | succ q ih =>
    intro x1 x3 x4 x5 h hP hR
    unfold PX12_tryLast_12 at hP
    unfold FX12_tryLast_12 at hR
    refine j_iload C dX12_tryLast_12 rfl ?_
    refine j_iconst (v := 4) C dX12_tryLast_14 (by decide) ?_
    refine j_icmp_ge (tgt := 63) C dX12_tryLast_15 (by decide) (fun c0 => ?_) (fun c0 => ?_)
    · have hP := hP.1 c0
      rw [if_pos c0] at hR
      refine j_iinc (v := (x4 + 1)) C dX12_tryLast_63 rfl rfl (by decide) rfl ?_
      refine j_goto (tgt := 3) C dX12_tryLast_66 (by decide) ?_
      exact j_vl (hL3 x1 x3 (x4 + 1) h hP hR) ⟨rfl, rfl, rfl, rfl, trivial⟩
    · have hP := hP.2 c0
      rw [if_neg c0] at hR
      refine j_aload_n C dX12_tryLast_18 rfl rfl ?_
      refine j_iload_n C dX12_tryLast_19 rfl rfl ?_
      refine j_iconst (v := 1) C dX12_tryLast_20 (by decide) ?_
      refine j_iadd C dX12_tryLast_21 ?_
      refine pM_340 C dX12_tryLast_22 ?_
      refine j_aload_n C dX12_tryLast_25 rfl rfl ?_
      refine gM_140 C dX12_tryLast_26 ?_
      refine j_iload_n C dX12_tryLast_29 rfl rfl ?_
      refine j_iload C dX12_tryLast_30 rfl ?_
      obtain ⟨p9, hP⟩ := hP
      refine j_iast (k := 42) C dX12_tryLast_32 (by decide) rfl p9 ?_
      refine j_aload_n C dX12_tryLast_33 rfl rfl ?_
      refine gM_143 C dX12_tryLast_34 ?_
      refine j_iload_n C dX12_tryLast_37 rfl rfl ?_
      refine j_iload C dX12_tryLast_38 rfl ?_
      obtain ⟨p15, hP⟩ := hP
      refine j_iast (k := 43) C dX12_tryLast_40 (by decide) rfl p15 ?_
      refine j_aload_n C dX12_tryLast_41 rfl rfl ?_
      obtain ⟨p18, hP⟩ := hP
      refine j_callV C (MX12_tryRun (hs (hs (hs h 0 74 (x1 + 1)) 42 x1.toNatClampNeg x4) 43 x1.toNatClampNeg x5) p18) dX12_tryLast_42 (CKX12_tryRun (by decide)) ⟨rfl, rfl⟩ lk_RX12_358 in_X12_tryRun se_X12_tryRun (by decide) rfl rfl rfl (Nat.le_of_ble_eq_true rfl) ?_
      intro r S' h' hq
      obtain ⟨e1, e2, e3, hb20⟩ := hq
      have e2 := e2.symm
      have e3 := e3.symm
      subst e1
      subst e2
      subst e3
      exact j_vl (tX12_tryLast_45 C L3 LP3 hL3 (FX12_tryLast_12 L3 q) (PX12_tryLast_12 LP3 q) (ih) x1 x3 x4 x5 ((FX12_tryRun (hs (hs (hs h 0 74 (x1 + 1)) 42 x1.toNatClampNeg x4) 43 x1.toNatClampNeg x5)).1) ((FX12_tryRun (hs (hs (hs h 0 74 (x1 + 1)) 42 x1.toNatClampNeg x4) 43 x1.toNatClampNeg x5)).2) hP hR) ⟨rfl, rfl, rfl, rfl, rfl, trivial⟩
def FX12_tryLast_3  : Nat → Int32 → Int32 → Int32 → ph_H → Int32 × ph_H
  | 0, _, _, _, h => (0, h)
  | q + 1, x1, x3, x4, h => if x3 ≤ x4 then ((0, h)) else (FX12_tryLast_12 (FX12_tryLast_3  q) 2000 x1 x3 x4 0 h)
def PX12_tryLast_3  : Nat → Int32 → Int32 → Int32 → ph_H → Prop
  | 0, _, _, _, _ => False
  | q + 1, x1, x3, x4, h => (x3 ≤ x4 → (True)) ∧ (¬ x3 ≤ x4 → (PX12_tryLast_12 (PX12_tryLast_3  q) 2000 x1 x3 x4 0 h))
set_option maxRecDepth 100000 in
set_option maxHeartbeats 4000000 in
theorem tX12_tryLast_3 {X : fj_X} {Y : fj_Y} {l0 : Launch} {ad : Nat → Nat} (C : FC X Y l0 cX12_tryLast 6 RX12 ({ frames := 5, cells := 0, slots := 0, locals := 122 } : Room) 0 0 (some .boolean)) : ∀ (q : Nat) (x1 : Int32) (x3 : Int32) (x4 : Int32) (h : ph_H), PX12_tryLast_3  q x1 x3 x4 h → RETz X Y ad 50 SM cX12_tryLast (FX12_tryLast_3  q x1 x3 x4 h) → FJ X Y ad 50 SM h 3 [(0, .ref (ad 0)), (1, .int x1), (3, .int x3), (4, .int x4)] [] := by
  intro q
  induction q with
  | zero =>
    intro x1 x3 x4 h hP hR
    exact absurd hP id
  | succ q ih =>
    intro x1 x3 x4 h hP hR
    unfold PX12_tryLast_3 at hP
    unfold FX12_tryLast_3 at hR
    refine j_iload C dX12_tryLast_3 rfl ?_
    refine j_iload_n C dX12_tryLast_5 rfl rfl ?_
    refine j_icmp_ge (tgt := 69) C dX12_tryLast_6 (by decide) (fun c0 => ?_) (fun c0 => ?_)
    · have hP := hP.1 c0
      rw [if_pos c0] at hR
      refine j_iconst (v := 0) C dX12_tryLast_69 (by decide) ?_
      exact hR bo_0 _ _ dX12_tryLast_70
    · have hP := hP.2 c0
      rw [if_neg c0] at hR
      refine j_iconst (v := 0) C dX12_tryLast_9 (by decide) ?_
      refine j_istore C dX12_tryLast_10 (by decide) rfl ?_
      exact j_vl (tX12_tryLast_12 C (FX12_tryLast_3  q) (PX12_tryLast_3  q) (ih) 2000 x1 x3 x4 0 h hP hR) ⟨rfl, rfl, rfl, rfl, rfl, trivial⟩
def FX12_tryLast (a0 : Int32) (a1 : Int32) (a2 : Int32) (h : ph_H) : Int32 × ph_H := FX12_tryLast_3 2000 a0 a2 a1 h
def PX12_tryLast (a0 : Int32) (a1 : Int32) (a2 : Int32) (h : ph_H) : Prop := PX12_tryLast_3 2000 a0 a2 a1 h
set_option maxRecDepth 100000 in
set_option maxHeartbeats 4000000 in
theorem tX12_tryLast {X : fj_X} {Y : fj_Y} {l0 : Launch} {ad : Nat → Nat} (C : FC X Y l0 cX12_tryLast 6 RX12 ({ frames := 5, cells := 0, slots := 0, locals := 122 } : Room) 0 0 (some .boolean)) (a0 : Int32) (a1 : Int32) (a2 : Int32) (h : ph_H) (hP : PX12_tryLast a0 a1 a2 h) (hR : RETz X Y ad 50 SM cX12_tryLast (FX12_tryLast a0 a1 a2 h)) : FJ X Y ad 50 SM h 0 [(0, .ref (ad 0)), (1, .int a0), (2, .int a1), (3, .int a2)] [] := by
  unfold PX12_tryLast at hP
  unfold FX12_tryLast at hR
  refine j_iload_n C dX12_tryLast_0 rfl rfl ?_
  refine j_istore C dX12_tryLast_1 (by decide) rfl ?_
  exact j_vl (tX12_tryLast_3 C 2000 a0 a2 a1 h hP hR) ⟨rfl, rfl, rfl, rfl, trivial⟩
theorem MX12_tryLast {l0 : Launch} {Y : fj_Y} {ad : Nat → Nat} (a0 : Int32) (a1 : Int32) (a2 : Int32) (h : ph_H) (hP : PX12_tryLast a0 a1 a2 h) : MI l0 yX12_tryLast cX12_tryLast 6 (some .boolean) ({ frames := 5, cells := 0, slots := 0, locals := 122 } : Room) Y ad 50 SM h [.ref (ad 0), .int a0, .int a1, .int a2] (fun r S' h' => S' = SM ∧ h' = (FX12_tryLast a0 a1 a2 h).2 ∧ r = (FX12_tryLast a0 a1 a2 h).1 ∧ bo r) := met_i (by decide) (Nat.le_of_ble_eq_true rfl) (fun _ _ _ q => bo_n q.2.2.2) (fun X C K => j_vl (tX12_tryLast C a0 a1 a2 h hP (fun b pc lv hd => K _ _ _ ⟨rfl, rfl, rfl, b⟩ pc lv hd)) ⟨rfl, rfl, rfl, rfl, trivial⟩)

-- X12_tryBoth
def FX12_tryBoth_61 (L2 : Int32 → Int32 → ph_H → Int32 × ph_H) (L9 : Int32 → Int32 → Int32 → ph_H → Int32 × ph_H) (x1 : Int32) (x2 : Int32) (x3 : Int32) (h : ph_H) : Int32 × ph_H := L9 x1 x2 (x3 + 1) h
def PX12_tryBoth_61 (LP2 : Int32 → Int32 → ph_H → Prop) (LP9 : Int32 → Int32 → Int32 → ph_H → Prop) (x1 : Int32) (x2 : Int32) (x3 : Int32) (h : ph_H) : Prop := LP9 x1 x2 (x3 + 1) h
set_option maxRecDepth 100000 in
set_option maxHeartbeats 4000000 in
theorem tX12_tryBoth_61 {X : fj_X} {Y : fj_Y} {l0 : Launch} {ad : Nat → Nat} (C : FC X Y l0 cX12_tryBoth 5 RX12 ({ frames := 6, cells := 0, slots := 0, locals := 147 } : Room) 0 0 (some .boolean)) (L2 : Int32 → Int32 → ph_H → Int32 × ph_H) (LP2 : Int32 → Int32 → ph_H → Prop) (hL2 : ∀ (x1 : Int32) (x2 : Int32) (h : ph_H), LP2 x1 x2 h → RETz X Y ad 50 SM cX12_tryBoth (L2 x1 x2 h) → FJ X Y ad 50 SM h 2 [(0, .ref (ad 0)), (1, .int x1), (2, .int x2)] []) (L9 : Int32 → Int32 → Int32 → ph_H → Int32 × ph_H) (LP9 : Int32 → Int32 → Int32 → ph_H → Prop) (hL9 : ∀ (x1 : Int32) (x2 : Int32) (x3 : Int32) (h : ph_H), LP9 x1 x2 x3 h → RETz X Y ad 50 SM cX12_tryBoth (L9 x1 x2 x3 h) → FJ X Y ad 50 SM h 9 [(0, .ref (ad 0)), (1, .int x1), (2, .int x2), (3, .int x3)] []) (x1 : Int32) (x2 : Int32) (x3 : Int32) (h : ph_H) (hP : PX12_tryBoth_61 LP2 LP9 x1 x2 x3 h) (hR : RETz X Y ad 50 SM cX12_tryBoth (FX12_tryBoth_61 L2 L9 x1 x2 x3 h)) : FJ X Y ad 50 SM h 61 [(0, .ref (ad 0)), (1, .int x1), (2, .int x2), (3, .int x3)] [] := by
  unfold PX12_tryBoth_61 at hP
  unfold FX12_tryBoth_61 at hR
  refine j_iinc (v := (x3 + 1)) C dX12_tryBoth_61 rfl rfl (by decide) rfl ?_
  refine j_goto (tgt := 9) C dX12_tryBoth_64 (by decide) ?_
  exact j_vl (hL9 x1 x2 (x3 + 1) h hP hR) ⟨rfl, rfl, rfl, rfl, trivial⟩
def FX12_tryBoth_56 (L2 : Int32 → Int32 → ph_H → Int32 × ph_H) (L9 : Int32 → Int32 → Int32 → ph_H → Int32 × ph_H) (x1 : Int32) (x2 : Int32) (x3 : Int32) (s0 : Int32) (h : ph_H) : Int32 × ph_H := if s0 = 0 then (FX12_tryBoth_61 L2 L9 x1 x2 x3 h) else ((1, h))
def PX12_tryBoth_56 (LP2 : Int32 → Int32 → ph_H → Prop) (LP9 : Int32 → Int32 → Int32 → ph_H → Prop) (x1 : Int32) (x2 : Int32) (x3 : Int32) (s0 : Int32) (h : ph_H) : Prop := (s0 = 0 → (PX12_tryBoth_61 LP2 LP9 x1 x2 x3 h)) ∧ (¬ s0 = 0 → (True))
set_option maxRecDepth 100000 in
set_option maxHeartbeats 4000000 in
theorem tX12_tryBoth_56 {X : fj_X} {Y : fj_Y} {l0 : Launch} {ad : Nat → Nat} (C : FC X Y l0 cX12_tryBoth 5 RX12 ({ frames := 6, cells := 0, slots := 0, locals := 147 } : Room) 0 0 (some .boolean)) (L2 : Int32 → Int32 → ph_H → Int32 × ph_H) (LP2 : Int32 → Int32 → ph_H → Prop) (hL2 : ∀ (x1 : Int32) (x2 : Int32) (h : ph_H), LP2 x1 x2 h → RETz X Y ad 50 SM cX12_tryBoth (L2 x1 x2 h) → FJ X Y ad 50 SM h 2 [(0, .ref (ad 0)), (1, .int x1), (2, .int x2)] []) (L9 : Int32 → Int32 → Int32 → ph_H → Int32 × ph_H) (LP9 : Int32 → Int32 → Int32 → ph_H → Prop) (hL9 : ∀ (x1 : Int32) (x2 : Int32) (x3 : Int32) (h : ph_H), LP9 x1 x2 x3 h → RETz X Y ad 50 SM cX12_tryBoth (L9 x1 x2 x3 h) → FJ X Y ad 50 SM h 9 [(0, .ref (ad 0)), (1, .int x1), (2, .int x2), (3, .int x3)] []) (x1 : Int32) (x2 : Int32) (x3 : Int32) (s0 : Int32) (h : ph_H) (hP : PX12_tryBoth_56 LP2 LP9 x1 x2 x3 s0 h) (hR : RETz X Y ad 50 SM cX12_tryBoth (FX12_tryBoth_56 L2 L9 x1 x2 x3 s0 h)) : FJ X Y ad 50 SM h 56 [(0, .ref (ad 0)), (1, .int x1), (2, .int x2), (3, .int x3)] [.int s0] := by
  unfold PX12_tryBoth_56 at hP
  unfold FX12_tryBoth_56 at hR
  refine j_if_eq (tgt := 61) C dX12_tryBoth_56 (by decide) (fun c0 => ?_) (fun c0 => ?_)
  · have hP := hP.1 c0
    rw [if_pos c0] at hR
    exact j_vl (tX12_tryBoth_61 C L2 LP2 hL2 L9 LP9 hL9 x1 x2 x3 h hP hR) ⟨rfl, rfl, rfl, rfl, trivial⟩
  · have hP := hP.2 c0
    rw [if_neg c0] at hR
    refine j_iconst (v := 1) C dX12_tryBoth_59 (by decide) ?_
    exact hR bo_1 _ _ dX12_tryBoth_60
def FX12_tryBoth_37 (L2 : Int32 → Int32 → ph_H → Int32 × ph_H) (L9 : Int32 → Int32 → Int32 → ph_H → Int32 × ph_H) (x1 : Int32) (x2 : Int32) (x3 : Int32) (s0 : Int32) (h : ph_H) : Int32 × ph_H := if s0 = 0 then (FX12_tryBoth_61 L2 L9 x1 x2 x3 h) else (FX12_tryBoth_56 L2 L9 x1 x2 x3 ((FX12_tryLast 1 (x2 + 1) (h 0 24) h).1) ((FX12_tryLast 1 (x2 + 1) (h 0 24) h).2))
def PX12_tryBoth_37 (LP2 : Int32 → Int32 → ph_H → Prop) (LP9 : Int32 → Int32 → Int32 → ph_H → Prop) (x1 : Int32) (x2 : Int32) (x3 : Int32) (s0 : Int32) (h : ph_H) : Prop := (s0 = 0 → (PX12_tryBoth_61 LP2 LP9 x1 x2 x3 h)) ∧ (¬ s0 = 0 → ((PX12_tryLast 1 (x2 + 1) (h 0 24) h) ∧ (PX12_tryBoth_56 LP2 LP9 x1 x2 x3 ((FX12_tryLast 1 (x2 + 1) (h 0 24) h).1) ((FX12_tryLast 1 (x2 + 1) (h 0 24) h).2))))
set_option maxRecDepth 100000 in
set_option maxHeartbeats 4000000 in
theorem tX12_tryBoth_37 {X : fj_X} {Y : fj_Y} {l0 : Launch} {ad : Nat → Nat} (C : FC X Y l0 cX12_tryBoth 5 RX12 ({ frames := 6, cells := 0, slots := 0, locals := 147 } : Room) 0 0 (some .boolean)) (L2 : Int32 → Int32 → ph_H → Int32 × ph_H) (LP2 : Int32 → Int32 → ph_H → Prop) (hL2 : ∀ (x1 : Int32) (x2 : Int32) (h : ph_H), LP2 x1 x2 h → RETz X Y ad 50 SM cX12_tryBoth (L2 x1 x2 h) → FJ X Y ad 50 SM h 2 [(0, .ref (ad 0)), (1, .int x1), (2, .int x2)] []) (L9 : Int32 → Int32 → Int32 → ph_H → Int32 × ph_H) (LP9 : Int32 → Int32 → Int32 → ph_H → Prop) (hL9 : ∀ (x1 : Int32) (x2 : Int32) (x3 : Int32) (h : ph_H), LP9 x1 x2 x3 h → RETz X Y ad 50 SM cX12_tryBoth (L9 x1 x2 x3 h) → FJ X Y ad 50 SM h 9 [(0, .ref (ad 0)), (1, .int x1), (2, .int x2), (3, .int x3)] []) (x1 : Int32) (x2 : Int32) (x3 : Int32) (s0 : Int32) (h : ph_H) (hP : PX12_tryBoth_37 LP2 LP9 x1 x2 x3 s0 h) (hR : RETz X Y ad 50 SM cX12_tryBoth (FX12_tryBoth_37 L2 L9 x1 x2 x3 s0 h)) : FJ X Y ad 50 SM h 37 [(0, .ref (ad 0)), (1, .int x1), (2, .int x2), (3, .int x3)] [.int s0] := by
  unfold PX12_tryBoth_37 at hP
  unfold FX12_tryBoth_37 at hR
  refine j_if_eq (tgt := 61) C dX12_tryBoth_37 (by decide) (fun c0 => ?_) (fun c0 => ?_)
  · have hP := hP.1 c0
    rw [if_pos c0] at hR
    exact j_vl (tX12_tryBoth_61 C L2 LP2 hL2 L9 LP9 hL9 x1 x2 x3 h hP hR) ⟨rfl, rfl, rfl, rfl, trivial⟩
  · have hP := hP.2 c0
    rw [if_neg c0] at hR
    refine j_aload_n C dX12_tryBoth_40 rfl rfl ?_
    refine gM_191 (v := (h 0 24)) C dX12_tryBoth_41 rfl ?_
    refine j_istore C dX12_tryBoth_44 (by decide) rfl ?_
    refine j_aload_n C dX12_tryBoth_46 rfl rfl ?_
    refine j_iconst (v := 1) C dX12_tryBoth_47 (by decide) ?_
    refine j_iload_n C dX12_tryBoth_48 rfl rfl ?_
    refine j_iconst (v := 1) C dX12_tryBoth_49 (by decide) ?_
    refine j_iadd C dX12_tryBoth_50 ?_
    refine j_iload C dX12_tryBoth_51 rfl ?_
    obtain ⟨p9, hP⟩ := hP
    refine j_callV C (MX12_tryLast 1 (x2 + 1) (h 0 24) h p9) dX12_tryBoth_53 (CKX12_tryLast (by decide)) ⟨rfl, rfl⟩ lk_RX12_365 in_X12_tryLast se_X12_tryLast (by decide) rfl rfl rfl (Nat.le_of_ble_eq_true rfl) ?_
    intro r S' h' hq
    obtain ⟨e1, e2, e3, hb11⟩ := hq
    have e2 := e2.symm
    have e3 := e3.symm
    subst e1
    subst e2
    subst e3
    exact j_vl (tX12_tryBoth_56 C L2 LP2 hL2 L9 LP9 hL9 x1 x2 x3 ((FX12_tryLast 1 (x2 + 1) (h 0 24) h).1) ((FX12_tryLast 1 (x2 + 1) (h 0 24) h).2) hP hR) ⟨rfl, rfl, rfl, rfl, trivial⟩
def FX12_tryBoth_9 (L2 : Int32 → Int32 → ph_H → Int32 × ph_H) : Nat → Int32 → Int32 → Int32 → ph_H → Int32 × ph_H
  | 0, _, _, _, h => (0, h)
  | q + 1, x1, x2, x3, h => if 4 ≤ x3 then (L2 x1 (x2 + 1) h) else (FX12_tryBoth_37 L2 (FX12_tryBoth_9 L2 q) x1 x2 x3 ((FX12_tryRun (hs (hs (hs h 0 74 1) 42 (0 : Int32).toNatClampNeg x2) 43 (0 : Int32).toNatClampNeg x3)).1) ((FX12_tryRun (hs (hs (hs h 0 74 1) 42 (0 : Int32).toNatClampNeg x2) 43 (0 : Int32).toNatClampNeg x3)).2))
def PX12_tryBoth_9 (LP2 : Int32 → Int32 → ph_H → Prop) : Nat → Int32 → Int32 → Int32 → ph_H → Prop
  | 0, _, _, _, _ => False
  | q + 1, x1, x2, x3, h => (4 ≤ x3 → (LP2 x1 (x2 + 1) h)) ∧ (¬ 4 ≤ x3 → (vp_in 0 2 ∧ (vp_in 0 2 ∧ ((PX12_tryRun (hs (hs (hs h 0 74 1) 42 (0 : Int32).toNatClampNeg x2) 43 (0 : Int32).toNatClampNeg x3)) ∧ (PX12_tryBoth_37 LP2 (PX12_tryBoth_9 LP2 q) x1 x2 x3 ((FX12_tryRun (hs (hs (hs h 0 74 1) 42 (0 : Int32).toNatClampNeg x2) 43 (0 : Int32).toNatClampNeg x3)).1) ((FX12_tryRun (hs (hs (hs h 0 74 1) 42 (0 : Int32).toNatClampNeg x2) 43 (0 : Int32).toNatClampNeg x3)).2))))))
set_option maxRecDepth 100000 in
set_option maxHeartbeats 4000000 in
theorem tX12_tryBoth_9 {X : fj_X} {Y : fj_Y} {l0 : Launch} {ad : Nat → Nat} (C : FC X Y l0 cX12_tryBoth 5 RX12 ({ frames := 6, cells := 0, slots := 0, locals := 147 } : Room) 0 0 (some .boolean)) (L2 : Int32 → Int32 → ph_H → Int32 × ph_H) (LP2 : Int32 → Int32 → ph_H → Prop) (hL2 : ∀ (x1 : Int32) (x2 : Int32) (h : ph_H), LP2 x1 x2 h → RETz X Y ad 50 SM cX12_tryBoth (L2 x1 x2 h) → FJ X Y ad 50 SM h 2 [(0, .ref (ad 0)), (1, .int x1), (2, .int x2)] []) : ∀ (q : Nat) (x1 : Int32) (x2 : Int32) (x3 : Int32) (h : ph_H), PX12_tryBoth_9 LP2 q x1 x2 x3 h → RETz X Y ad 50 SM cX12_tryBoth (FX12_tryBoth_9 L2 q x1 x2 x3 h) → FJ X Y ad 50 SM h 9 [(0, .ref (ad 0)), (1, .int x1), (2, .int x2), (3, .int x3)] [] := by
  intro q
  induction q with
  | zero =>
    intro x1 x2 x3 h hP hR
    exact absurd hP id
  | succ q ih =>
    intro x1 x2 x3 h hP hR
    unfold PX12_tryBoth_9 at hP
    unfold FX12_tryBoth_9 at hR
    refine j_iload_n C dX12_tryBoth_9 rfl rfl ?_
    refine j_iconst (v := 4) C dX12_tryBoth_10 (by decide) ?_
    refine j_icmp_ge (tgt := 67) C dX12_tryBoth_11 (by decide) (fun c0 => ?_) (fun c0 => ?_)
    · have hP := hP.1 c0
      rw [if_pos c0] at hR
      refine j_iinc (v := (x2 + 1)) C dX12_tryBoth_67 rfl rfl (by decide) rfl ?_
      refine j_goto (tgt := 2) C dX12_tryBoth_70 (by decide) ?_
      exact j_vl (hL2 x1 (x2 + 1) h hP hR) ⟨rfl, rfl, rfl, trivial⟩
    · have hP := hP.2 c0
      rw [if_neg c0] at hR
      refine j_aload_n C dX12_tryBoth_14 rfl rfl ?_
      refine j_iconst (v := 1) C dX12_tryBoth_15 (by decide) ?_
      refine pM_340 C dX12_tryBoth_16 ?_
      refine j_aload_n C dX12_tryBoth_19 rfl rfl ?_
      refine gM_140 C dX12_tryBoth_20 ?_
      refine j_iconst (v := 0) C dX12_tryBoth_23 (by decide) ?_
      refine j_iload_n C dX12_tryBoth_24 rfl rfl ?_
      obtain ⟨p7, hP⟩ := hP
      refine j_iast (k := 42) C dX12_tryBoth_25 (by decide) rfl p7 ?_
      refine j_aload_n C dX12_tryBoth_26 rfl rfl ?_
      refine gM_143 C dX12_tryBoth_27 ?_
      refine j_iconst (v := 0) C dX12_tryBoth_30 (by decide) ?_
      refine j_iload_n C dX12_tryBoth_31 rfl rfl ?_
      obtain ⟨p13, hP⟩ := hP
      refine j_iast (k := 43) C dX12_tryBoth_32 (by decide) rfl p13 ?_
      refine j_aload_n C dX12_tryBoth_33 rfl rfl ?_
      obtain ⟨p16, hP⟩ := hP
      refine j_callV C (MX12_tryRun (hs (hs (hs h 0 74 1) 42 (0 : Int32).toNatClampNeg x2) 43 (0 : Int32).toNatClampNeg x3) p16) dX12_tryBoth_34 (CKX12_tryRun (by decide)) ⟨rfl, rfl⟩ lk_RX12_358 in_X12_tryRun se_X12_tryRun (by decide) rfl rfl rfl (Nat.le_of_ble_eq_true rfl) ?_
      intro r S' h' hq
      obtain ⟨e1, e2, e3, hb18⟩ := hq
      have e2 := e2.symm
      have e3 := e3.symm
      subst e1
      subst e2
      subst e3
      exact j_vl (tX12_tryBoth_37 C L2 LP2 hL2 (FX12_tryBoth_9 L2 q) (PX12_tryBoth_9 LP2 q) (ih) x1 x2 x3 ((FX12_tryRun (hs (hs (hs h 0 74 1) 42 (0 : Int32).toNatClampNeg x2) 43 (0 : Int32).toNatClampNeg x3)).1) ((FX12_tryRun (hs (hs (hs h 0 74 1) 42 (0 : Int32).toNatClampNeg x2) 43 (0 : Int32).toNatClampNeg x3)).2) hP hR) ⟨rfl, rfl, rfl, rfl, trivial⟩
def FX12_tryBoth_2  : Nat → Int32 → Int32 → ph_H → Int32 × ph_H
  | 0, _, _, h => (0, h)
  | q + 1, x1, x2, h => if x1 ≤ x2 then ((0, h)) else (FX12_tryBoth_9 (FX12_tryBoth_2  q) 2000 x1 x2 0 h)
def PX12_tryBoth_2  : Nat → Int32 → Int32 → ph_H → Prop
  | 0, _, _, _ => False
  | q + 1, x1, x2, h => (x1 ≤ x2 → (True)) ∧ (¬ x1 ≤ x2 → (PX12_tryBoth_9 (PX12_tryBoth_2  q) 2000 x1 x2 0 h))
set_option maxRecDepth 100000 in
set_option maxHeartbeats 4000000 in
theorem tX12_tryBoth_2 {X : fj_X} {Y : fj_Y} {l0 : Launch} {ad : Nat → Nat} (C : FC X Y l0 cX12_tryBoth 5 RX12 ({ frames := 6, cells := 0, slots := 0, locals := 147 } : Room) 0 0 (some .boolean)) : ∀ (q : Nat) (x1 : Int32) (x2 : Int32) (h : ph_H), PX12_tryBoth_2  q x1 x2 h → RETz X Y ad 50 SM cX12_tryBoth (FX12_tryBoth_2  q x1 x2 h) → FJ X Y ad 50 SM h 2 [(0, .ref (ad 0)), (1, .int x1), (2, .int x2)] [] := by
  intro q
  induction q with
  | zero =>
    intro x1 x2 h hP hR
    exact absurd hP id
  | succ q ih =>
    intro x1 x2 h hP hR
    unfold PX12_tryBoth_2 at hP
    unfold FX12_tryBoth_2 at hR
    refine j_iload_n C dX12_tryBoth_2 rfl rfl ?_
    refine j_iload_n C dX12_tryBoth_3 rfl rfl ?_
    refine j_icmp_ge (tgt := 73) C dX12_tryBoth_4 (by decide) (fun c0 => ?_) (fun c0 => ?_)
    · have hP := hP.1 c0
      rw [if_pos c0] at hR
      refine j_iconst (v := 0) C dX12_tryBoth_73 (by decide) ?_
      exact hR bo_0 _ _ dX12_tryBoth_74
    · have hP := hP.2 c0
      rw [if_neg c0] at hR
      refine j_iconst (v := 0) C dX12_tryBoth_7 (by decide) ?_
      refine j_istore_n C dX12_tryBoth_8 rfl (by decide) rfl ?_
      exact j_vl (tX12_tryBoth_9 C (FX12_tryBoth_2  q) (PX12_tryBoth_2  q) (ih) 2000 x1 x2 0 h hP hR) ⟨rfl, rfl, rfl, rfl, trivial⟩
def FX12_tryBoth (a0 : Int32) (h : ph_H) : Int32 × ph_H := FX12_tryBoth_2 2000 a0 1 h
def PX12_tryBoth (a0 : Int32) (h : ph_H) : Prop := PX12_tryBoth_2 2000 a0 1 h
set_option maxRecDepth 100000 in
set_option maxHeartbeats 4000000 in
theorem tX12_tryBoth {X : fj_X} {Y : fj_Y} {l0 : Launch} {ad : Nat → Nat} (C : FC X Y l0 cX12_tryBoth 5 RX12 ({ frames := 6, cells := 0, slots := 0, locals := 147 } : Room) 0 0 (some .boolean)) (a0 : Int32) (h : ph_H) (hP : PX12_tryBoth a0 h) (hR : RETz X Y ad 50 SM cX12_tryBoth (FX12_tryBoth a0 h)) : FJ X Y ad 50 SM h 0 [(0, .ref (ad 0)), (1, .int a0)] [] := by
  unfold PX12_tryBoth at hP
  unfold FX12_tryBoth at hR
  refine j_iconst (v := 1) C dX12_tryBoth_0 (by decide) ?_
  refine j_istore_n C dX12_tryBoth_1 rfl (by decide) rfl ?_
  exact j_vl (tX12_tryBoth_2 C 2000 a0 1 h hP hR) ⟨rfl, rfl, rfl, trivial⟩
theorem MX12_tryBoth {l0 : Launch} {Y : fj_Y} {ad : Nat → Nat} (a0 : Int32) (h : ph_H) (hP : PX12_tryBoth a0 h) : MI l0 yX12_tryBoth cX12_tryBoth 5 (some .boolean) ({ frames := 6, cells := 0, slots := 0, locals := 147 } : Room) Y ad 50 SM h [.ref (ad 0), .int a0] (fun r S' h' => S' = SM ∧ h' = (FX12_tryBoth a0 h).2 ∧ r = (FX12_tryBoth a0 h).1 ∧ bo r) := met_i (by decide) (Nat.le_of_ble_eq_true rfl) (fun _ _ _ q => bo_n q.2.2.2) (fun X C K => j_vl (tX12_tryBoth C a0 h hP (fun b pc lv hd => K _ _ _ ⟨rfl, rfl, rfl, b⟩ pc lv hd)) ⟨rfl, rfl, trivial⟩)

-- X12_find
def FX12_find_119  (h : ph_H) : Int32 × ph_H := ((h 0 69), h)
def PX12_find_119  (h : ph_H) : Prop := True
set_option maxRecDepth 100000 in
set_option maxHeartbeats 4000000 in
theorem tX12_find_119 {X : fj_X} {Y : fj_Y} {l0 : Launch} {ad : Nat → Nat} (C : FC X Y l0 cX12_find 6 RX12 ({ frames := 7, cells := 0, slots := 0, locals := 171 } : Room) 0 0 (some .int)) (h : ph_H) (hP : PX12_find_119  h) (hR : RETi X Y ad 50 SM cX12_find (FX12_find_119  h)) : FJ X Y ad 50 SM h 119 [(0, .ref (ad 0))] [] := by
  unfold PX12_find_119 at hP
  unfold FX12_find_119 at hR
  refine j_iconst (v := 1) C dX12_find_119 (by decide) ?_
  refine j_goto (tgt := 124) C dX12_find_120 (by decide) ?_
  refine j_istore C dX12_find_124 (by decide) rfl ?_
  refine j_aload_n C dX12_find_126 rfl rfl ?_
  refine gM_346 (v := (h 0 69)) C dX12_find_127 rfl ?_
  exact hR _ _ dX12_find_130
def FX12_find_116  (s0 : Int32) (h : ph_H) : Int32 × ph_H := if s0 = 0 then (((h 0 69), h)) else (FX12_find_119  h)
def PX12_find_116  (s0 : Int32) (h : ph_H) : Prop := (s0 = 0 → (True)) ∧ (¬ s0 = 0 → (PX12_find_119  h))
set_option maxRecDepth 100000 in
set_option maxHeartbeats 4000000 in
theorem tX12_find_116 {X : fj_X} {Y : fj_Y} {l0 : Launch} {ad : Nat → Nat} (C : FC X Y l0 cX12_find 6 RX12 ({ frames := 7, cells := 0, slots := 0, locals := 171 } : Room) 0 0 (some .int)) (s0 : Int32) (h : ph_H) (hP : PX12_find_116  s0 h) (hR : RETi X Y ad 50 SM cX12_find (FX12_find_116  s0 h)) : FJ X Y ad 50 SM h 116 [(0, .ref (ad 0))] [.int s0] := by
  unfold PX12_find_116 at hP
  unfold FX12_find_116 at hR
  refine j_if_eq (tgt := 123) C dX12_find_116 (by decide) (fun c0 => ?_) (fun c0 => ?_)
  · have hP := hP.1 c0
    rw [if_pos c0] at hR
    refine j_iconst (v := 0) C dX12_find_123 (by decide) ?_
    refine j_istore C dX12_find_124 (by decide) rfl ?_
    refine j_aload_n C dX12_find_126 rfl rfl ?_
    refine gM_346 (v := (h 0 69)) C dX12_find_127 rfl ?_
    exact hR _ _ dX12_find_130
  · have hP := hP.2 c0
    rw [if_neg c0] at hR
    exact j_vl (tX12_find_119 C  h hP hR) ⟨rfl, trivial⟩
def FX12_find_98  (x1 : Int32) (x4 : Int32) (s0 : Int32) (h : ph_H) : Int32 × ph_H := if s0 = 0 then (if x1 = 1 then (FX12_find_119  h) else (FX12_find_116  ((FX12_tryBoth x4 h).1) ((FX12_tryBoth x4 h).2))) else (FX12_find_119  h)
def PX12_find_98  (x1 : Int32) (x4 : Int32) (s0 : Int32) (h : ph_H) : Prop := (s0 = 0 → ((x1 = 1 → (PX12_find_119  h)) ∧ (¬ x1 = 1 → ((PX12_tryBoth x4 h) ∧ (PX12_find_116  ((FX12_tryBoth x4 h).1) ((FX12_tryBoth x4 h).2)))))) ∧ (¬ s0 = 0 → (PX12_find_119  h))
set_option maxRecDepth 100000 in
set_option maxHeartbeats 4000000 in
theorem tX12_find_98 {X : fj_X} {Y : fj_Y} {l0 : Launch} {ad : Nat → Nat} (C : FC X Y l0 cX12_find 6 RX12 ({ frames := 7, cells := 0, slots := 0, locals := 171 } : Room) 0 0 (some .int)) (x1 : Int32) (x4 : Int32) (s0 : Int32) (h : ph_H) (hP : PX12_find_98  x1 x4 s0 h) (hR : RETi X Y ad 50 SM cX12_find (FX12_find_98  x1 x4 s0 h)) : FJ X Y ad 50 SM h 98 [(0, .ref (ad 0)), (1, .int x1), (4, .int x4)] [.int s0] := by
  unfold PX12_find_98 at hP
  unfold FX12_find_98 at hR
  refine j_istore C dX12_find_98 (by decide) rfl ?_
  refine j_iload C dX12_find_100 rfl ?_
  refine j_if_ne (tgt := 119) C dX12_find_102 (by decide) (fun c0 => ?_) (fun c0 => ?_)
  · have hP := hP.2 c0
    rw [if_neg c0] at hR
    exact j_vl (tX12_find_119 C  h hP hR) ⟨rfl, trivial⟩
  · have hP := hP.1 c0
    rw [if_pos c0] at hR
    refine j_iload_n C dX12_find_105 rfl rfl ?_
    refine j_iconst (v := 1) C dX12_find_106 (by decide) ?_
    refine j_icmp_eq (tgt := 119) C dX12_find_107 (by decide) (fun c1 => ?_) (fun c1 => ?_)
    · have hP := hP.1 c1
      rw [if_pos c1] at hR
      exact j_vl (tX12_find_119 C  h hP hR) ⟨rfl, trivial⟩
    · have hP := hP.2 c1
      rw [if_neg c1] at hR
      refine j_aload_n C dX12_find_110 rfl rfl ?_
      refine j_iload C dX12_find_111 rfl ?_
      obtain ⟨p2, hP⟩ := hP
      refine j_callV C (MX12_tryBoth x4 h p2) dX12_find_113 (CKX12_tryBoth (by decide)) ⟨rfl, rfl⟩ lk_RX12_369 in_X12_tryBoth se_X12_tryBoth (by decide) rfl rfl rfl (Nat.le_of_ble_eq_true rfl) ?_
      intro r S' h' hq
      obtain ⟨e1, e2, e3, hb4⟩ := hq
      have e2 := e2.symm
      have e3 := e3.symm
      subst e1
      subst e2
      subst e3
      exact j_vl (tX12_find_116 C  ((FX12_tryBoth x4 h).1) ((FX12_tryBoth x4 h).2) hP hR) ⟨rfl, trivial⟩
def FX12_find_93  (x1 : Int32) (x4 : Int32) (h : ph_H) : Int32 × ph_H := FX12_find_98  x1 x4 1 h
def PX12_find_93  (x1 : Int32) (x4 : Int32) (h : ph_H) : Prop := PX12_find_98  x1 x4 1 h
set_option maxRecDepth 100000 in
set_option maxHeartbeats 4000000 in
theorem tX12_find_93 {X : fj_X} {Y : fj_Y} {l0 : Launch} {ad : Nat → Nat} (C : FC X Y l0 cX12_find 6 RX12 ({ frames := 7, cells := 0, slots := 0, locals := 171 } : Room) 0 0 (some .int)) (x1 : Int32) (x4 : Int32) (h : ph_H) (hP : PX12_find_93  x1 x4 h) (hR : RETi X Y ad 50 SM cX12_find (FX12_find_93  x1 x4 h)) : FJ X Y ad 50 SM h 93 [(0, .ref (ad 0)), (1, .int x1), (4, .int x4)] [] := by
  unfold PX12_find_93 at hP
  unfold FX12_find_93 at hR
  refine j_iconst (v := 1) C dX12_find_93 (by decide) ?_
  refine j_goto (tgt := 98) C dX12_find_94 (by decide) ?_
  exact j_vl (tX12_find_98 C  x1 x4 1 h hP hR) ⟨rfl, rfl, rfl, trivial⟩
def FX12_find_90  (x1 : Int32) (x4 : Int32) (s0 : Int32) (h : ph_H) : Int32 × ph_H := if s0 = 0 then (FX12_find_98  x1 x4 0 h) else (FX12_find_93  x1 x4 h)
def PX12_find_90  (x1 : Int32) (x4 : Int32) (s0 : Int32) (h : ph_H) : Prop := (s0 = 0 → (PX12_find_98  x1 x4 0 h)) ∧ (¬ s0 = 0 → (PX12_find_93  x1 x4 h))
set_option maxRecDepth 100000 in
set_option maxHeartbeats 4000000 in
theorem tX12_find_90 {X : fj_X} {Y : fj_Y} {l0 : Launch} {ad : Nat → Nat} (C : FC X Y l0 cX12_find 6 RX12 ({ frames := 7, cells := 0, slots := 0, locals := 171 } : Room) 0 0 (some .int)) (x1 : Int32) (x4 : Int32) (s0 : Int32) (h : ph_H) (hP : PX12_find_90  x1 x4 s0 h) (hR : RETi X Y ad 50 SM cX12_find (FX12_find_90  x1 x4 s0 h)) : FJ X Y ad 50 SM h 90 [(0, .ref (ad 0)), (1, .int x1), (4, .int x4)] [.int s0] := by
  unfold PX12_find_90 at hP
  unfold FX12_find_90 at hR
  refine j_if_eq (tgt := 97) C dX12_find_90 (by decide) (fun c0 => ?_) (fun c0 => ?_)
  · have hP := hP.1 c0
    rw [if_pos c0] at hR
    refine j_iconst (v := 0) C dX12_find_97 (by decide) ?_
    exact j_vl (tX12_find_98 C  x1 x4 0 h hP hR) ⟨rfl, rfl, rfl, trivial⟩
  · have hP := hP.2 c0
    rw [if_neg c0] at hR
    exact j_vl (tX12_find_93 C  x1 x4 h hP hR) ⟨rfl, rfl, rfl, trivial⟩
def FX12_find_71  (x1 : Int32) (x4 : Int32) (s0 : Int32) (h : ph_H) : Int32 × ph_H := if s0 = 0 then (if x1 = 0 then (FX12_find_93  x1 x4 h) else (FX12_find_90  x1 x4 ((FX12_tryLast 0 1 x4 h).1) ((FX12_tryLast 0 1 x4 h).2))) else (FX12_find_93  x1 x4 h)
def PX12_find_71  (x1 : Int32) (x4 : Int32) (s0 : Int32) (h : ph_H) : Prop := (s0 = 0 → ((x1 = 0 → (PX12_find_93  x1 x4 h)) ∧ (¬ x1 = 0 → ((PX12_tryLast 0 1 x4 h) ∧ (PX12_find_90  x1 x4 ((FX12_tryLast 0 1 x4 h).1) ((FX12_tryLast 0 1 x4 h).2)))))) ∧ (¬ s0 = 0 → (PX12_find_93  x1 x4 h))
set_option maxRecDepth 100000 in
set_option maxHeartbeats 4000000 in
theorem tX12_find_71 {X : fj_X} {Y : fj_Y} {l0 : Launch} {ad : Nat → Nat} (C : FC X Y l0 cX12_find 6 RX12 ({ frames := 7, cells := 0, slots := 0, locals := 171 } : Room) 0 0 (some .int)) (x1 : Int32) (x4 : Int32) (s0 : Int32) (h : ph_H) (hP : PX12_find_71  x1 x4 s0 h) (hR : RETi X Y ad 50 SM cX12_find (FX12_find_71  x1 x4 s0 h)) : FJ X Y ad 50 SM h 71 [(0, .ref (ad 0)), (1, .int x1), (4, .int x4)] [.int s0] := by
  unfold PX12_find_71 at hP
  unfold FX12_find_71 at hR
  refine j_istore C dX12_find_71 (by decide) rfl ?_
  refine j_iload C dX12_find_73 rfl ?_
  refine j_if_ne (tgt := 93) C dX12_find_75 (by decide) (fun c0 => ?_) (fun c0 => ?_)
  · have hP := hP.2 c0
    rw [if_neg c0] at hR
    exact j_vl (tX12_find_93 C  x1 x4 h hP hR) ⟨rfl, rfl, rfl, trivial⟩
  · have hP := hP.1 c0
    rw [if_pos c0] at hR
    refine j_iload_n C dX12_find_78 rfl rfl ?_
    refine j_if_eq (tgt := 93) C dX12_find_79 (by decide) (fun c1 => ?_) (fun c1 => ?_)
    · have hP := hP.1 c1
      rw [if_pos c1] at hR
      exact j_vl (tX12_find_93 C  x1 x4 h hP hR) ⟨rfl, rfl, rfl, trivial⟩
    · have hP := hP.2 c1
      rw [if_neg c1] at hR
      refine j_aload_n C dX12_find_82 rfl rfl ?_
      refine j_iconst (v := 0) C dX12_find_83 (by decide) ?_
      refine j_iconst (v := 1) C dX12_find_84 (by decide) ?_
      refine j_iload C dX12_find_85 rfl ?_
      obtain ⟨p4, hP⟩ := hP
      refine j_callV C (MX12_tryLast 0 1 x4 h p4) dX12_find_87 (CKX12_tryLast (by decide)) ⟨rfl, rfl⟩ lk_RX12_365 in_X12_tryLast se_X12_tryLast (by decide) rfl rfl rfl (Nat.le_of_ble_eq_true rfl) ?_
      intro r S' h' hq
      obtain ⟨e1, e2, e3, hb6⟩ := hq
      have e2 := e2.symm
      have e3 := e3.symm
      subst e1
      subst e2
      subst e3
      exact j_vl (tX12_find_90 C  x1 x4 ((FX12_tryLast 0 1 x4 h).1) ((FX12_tryLast 0 1 x4 h).2) hP hR) ⟨rfl, rfl, rfl, trivial⟩
def FX12_find_60  (x1 : Int32) (s0 : Int32) (h : ph_H) : Int32 × ph_H := FX12_find_71  x1 (h 0 24) ((FX12_isOver h).1) ((FX12_isOver h).2)
def PX12_find_60  (x1 : Int32) (s0 : Int32) (h : ph_H) : Prop := (PX12_isOver h) ∧ (PX12_find_71  x1 (h 0 24) ((FX12_isOver h).1) ((FX12_isOver h).2))
set_option maxRecDepth 100000 in
set_option maxHeartbeats 4000000 in
theorem tX12_find_60 {X : fj_X} {Y : fj_Y} {l0 : Launch} {ad : Nat → Nat} (C : FC X Y l0 cX12_find 6 RX12 ({ frames := 7, cells := 0, slots := 0, locals := 171 } : Room) 0 0 (some .int)) (x1 : Int32) (s0 : Int32) (h : ph_H) (hP : PX12_find_60  x1 s0 h) (hR : RETi X Y ad 50 SM cX12_find (FX12_find_60  x1 s0 h)) : FJ X Y ad 50 SM h 60 [(0, .ref (ad 0)), (1, .int x1)] [.int s0] := by
  unfold PX12_find_60 at hP
  unfold FX12_find_60 at hR
  refine j_istore_n C dX12_find_60 rfl (by decide) rfl ?_
  refine j_aload_n C dX12_find_61 rfl rfl ?_
  refine gM_191 (v := (h 0 24)) C dX12_find_62 rfl ?_
  refine j_istore C dX12_find_65 (by decide) rfl ?_
  refine j_aload_n C dX12_find_67 rfl rfl ?_
  obtain ⟨p5, hP⟩ := hP
  refine j_callV C (MX12_isOver h p5) dX12_find_68 (CKX12_isOver (by decide)) ⟨rfl, rfl⟩ lk_RX12_362 in_X12_isOver se_X12_isOver (by decide) rfl rfl rfl (Nat.le_of_ble_eq_true rfl) ?_
  intro r S' h' hq
  obtain ⟨e1, e2, e3, hb7⟩ := hq
  have e2 := e2.symm
  have e3 := e3.symm
  subst e1
  subst e2
  subst e3
  exact j_vl (tX12_find_71 C  x1 (h 0 24) ((FX12_isOver h).1) ((FX12_isOver h).2) hP hR) ⟨rfl, rfl, rfl, trivial⟩
def FX12_find (a0 : Int32) (a1 : Int32) (h : ph_H) : Int32 × ph_H := if (FX12_isIn a0.toInt64 0 2) = 0 then (((-1), (hs h 0 0 0))) else (if (FX12_isIn a1.toInt64 1 100) = 0 then (((-1), (hs h 0 0 0))) else (FX12_find_60  a0 ((FX12_tryRun (hs (hs (hs (hs (hs (hs h 0 0 0) 0 33 0) 0 67 0) 0 68 a1) 0 69 0) 0 74 0)).1) ((FX12_tryRun (hs (hs (hs (hs (hs (hs h 0 0 0) 0 33 0) 0 67 0) 0 68 a1) 0 69 0) 0 74 0)).2)))
def PX12_find (a0 : Int32) (a1 : Int32) (h : ph_H) : Prop := (PX12_isIn a0.toInt64 0 2) ∧ (((FX12_isIn a0.toInt64 0 2) = 0 → (True)) ∧ (¬ (FX12_isIn a0.toInt64 0 2) = 0 → ((PX12_isIn a1.toInt64 1 100) ∧ (((FX12_isIn a1.toInt64 1 100) = 0 → (True)) ∧ (¬ (FX12_isIn a1.toInt64 1 100) = 0 → ((PX12_tryRun (hs (hs (hs (hs (hs (hs h 0 0 0) 0 33 0) 0 67 0) 0 68 a1) 0 69 0) 0 74 0)) ∧ (PX12_find_60  a0 ((FX12_tryRun (hs (hs (hs (hs (hs (hs h 0 0 0) 0 33 0) 0 67 0) 0 68 a1) 0 69 0) 0 74 0)).1) ((FX12_tryRun (hs (hs (hs (hs (hs (hs h 0 0 0) 0 33 0) 0 67 0) 0 68 a1) 0 69 0) 0 74 0)).2))))))))
set_option maxRecDepth 100000 in
set_option maxHeartbeats 4000000 in
theorem tX12_find {X : fj_X} {Y : fj_Y} {l0 : Launch} {ad : Nat → Nat} (C : FC X Y l0 cX12_find 6 RX12 ({ frames := 7, cells := 0, slots := 0, locals := 171 } : Room) 0 0 (some .int)) (a0 : Int32) (a1 : Int32) (h : ph_H) (hP : PX12_find a0 a1 h) (hR : RETi X Y ad 50 SM cX12_find (FX12_find a0 a1 h)) : FJ X Y ad 50 SM h 0 [(0, .ref (ad 0)), (1, .int a0), (2, .int a1)] [] := by
  unfold PX12_find at hP
  unfold FX12_find at hR
  refine j_aload_n C dX12_find_0 rfl rfl ?_
  refine j_iconst (v := 0) C dX12_find_1 (by decide) ?_
  refine pM_164 C dX12_find_2 ?_
  refine j_iload_n C dX12_find_5 rfl rfl ?_
  refine j_i2l C dX12_find_6 ?_
  refine j_lconst (v := 0) C dX12_find_7 (by decide) ?_
  refine j_ldc2 (v := 2) C dX12_find_8 kl_RX12_325 ?_
  obtain ⟨p7, hP⟩ := hP
  refine j_callS C (MX12_isIn a0.toInt64 0 2 (hs h 0 0 0) p7) dX12_find_11 (CKX12_isIn (by decide)) ⟨rfl, rfl⟩ lk_RX12_169 st_X12_isIn rfl (Nat.le_of_ble_eq_true rfl) ?_
  intro r S' h' hq
  obtain ⟨e1, hh, e3, hb9⟩ := hq
  have e3 := e3.symm
  subst e1
  subst e3
  rw [hh]
  refine j_if_eq (tgt := 29) C dX12_find_14 (by decide) (fun c0 => ?_) (fun c0 => ?_)
  · have hP := hP.1 c0
    rw [if_pos c0] at hR
    refine j_iconst (v := (-1)) C dX12_find_29 (by decide) ?_
    exact hR _ _ dX12_find_30
  · have hP := hP.2 c0
    rw [if_neg c0] at hR
    refine j_iload_n C dX12_find_17 rfl rfl ?_
    refine j_i2l C dX12_find_18 ?_
    refine j_lconst (v := 1) C dX12_find_19 (by decide) ?_
    refine j_ldc2 (v := 100) C dX12_find_20 kl_RX12_180 ?_
    obtain ⟨p4, hP⟩ := hP
    refine j_callS C (MX12_isIn a1.toInt64 1 100 (hs h 0 0 0) p4) dX12_find_23 (CKX12_isIn (by decide)) ⟨rfl, rfl⟩ lk_RX12_169 st_X12_isIn rfl (Nat.le_of_ble_eq_true rfl) ?_
    intro r S' h' hq
    obtain ⟨e1, hh, e3, hb6⟩ := hq
    have e3 := e3.symm
    subst e1
    subst e3
    rw [hh]
    refine j_if_ne (tgt := 31) C dX12_find_26 (by decide) (fun c1 => ?_) (fun c1 => ?_)
    · have hP := hP.2 c1
      rw [if_neg c1] at hR
      refine j_aload_n C dX12_find_31 rfl rfl ?_
      refine j_iconst (v := 0) C dX12_find_32 (by decide) ?_
      refine pM_218 C dX12_find_33 bo_0 ?_
      refine j_aload_n C dX12_find_36 rfl rfl ?_
      refine j_iconst (v := 0) C dX12_find_37 (by decide) ?_
      refine pM_343 C dX12_find_38 ?_
      refine j_aload_n C dX12_find_41 rfl rfl ?_
      refine j_iload_n C dX12_find_42 rfl rfl ?_
      refine pM_355 C dX12_find_43 ?_
      refine j_aload_n C dX12_find_46 rfl rfl ?_
      refine j_iconst (v := 0) C dX12_find_47 (by decide) ?_
      refine pM_346 C dX12_find_48 ?_
      refine j_aload_n C dX12_find_51 rfl rfl ?_
      refine j_iconst (v := 0) C dX12_find_52 (by decide) ?_
      refine pM_340 C dX12_find_53 ?_
      refine j_aload_n C dX12_find_56 rfl rfl ?_
      obtain ⟨p16, hP⟩ := hP
      refine j_callV C (MX12_tryRun (hs (hs (hs (hs (hs (hs h 0 0 0) 0 33 0) 0 67 0) 0 68 a1) 0 69 0) 0 74 0) p16) dX12_find_57 (CKX12_tryRun (by decide)) ⟨rfl, rfl⟩ lk_RX12_358 in_X12_tryRun se_X12_tryRun (by decide) rfl rfl rfl (Nat.le_of_ble_eq_true rfl) ?_
      intro r S' h' hq
      obtain ⟨e1, e2, e3, hb18⟩ := hq
      have e2 := e2.symm
      have e3 := e3.symm
      subst e1
      subst e2
      subst e3
      exact j_vl (tX12_find_60 C  a0 ((FX12_tryRun (hs (hs (hs (hs (hs (hs h 0 0 0) 0 33 0) 0 67 0) 0 68 a1) 0 69 0) 0 74 0)).1) ((FX12_tryRun (hs (hs (hs (hs (hs (hs h 0 0 0) 0 33 0) 0 67 0) 0 68 a1) 0 69 0) 0 74 0)).2) hP hR) ⟨rfl, rfl, trivial⟩
    · have hP := hP.1 c1
      rw [if_pos c1] at hR
      refine j_iconst (v := (-1)) C dX12_find_29 (by decide) ?_
      exact hR _ _ dX12_find_30
theorem MX12_find {l0 : Launch} {Y : fj_Y} {ad : Nat → Nat} (a0 : Int32) (a1 : Int32) (h : ph_H) (hP : PX12_find a0 a1 h) : MI l0 yX12_find cX12_find 6 (some .int) ({ frames := 7, cells := 0, slots := 0, locals := 171 } : Room) Y ad 50 SM h [.ref (ad 0), .int a0, .int a1] (fun r S' h' => S' = SM ∧ h' = (FX12_find a0 a1 h).2 ∧ r = (FX12_find a0 a1 h).1) := met_i (by decide) (Nat.le_of_ble_eq_true rfl) (fun _ _ _ _ => rfl) (fun X C K => j_vl (tX12_find C a0 a1 h hP (fun pc lv hd => K _ _ _ ⟨rfl, rfl, rfl⟩ pc lv hd)) ⟨rfl, rfl, rfl, trivial⟩)

-- X12_found
def FX12_found_49  (x1 : Int32) (h : ph_H) : Int32 × ph_H := if x1 = 0 then (((h 0 70), h)) else (((h 0 73), h))
def PX12_found_49  (x1 : Int32) (h : ph_H) : Prop := (x1 = 0 → (True)) ∧ (¬ x1 = 0 → (True))
set_option maxRecDepth 100000 in
set_option maxHeartbeats 4000000 in
theorem tX12_found_49 {X : fj_X} {Y : fj_Y} {l0 : Launch} {ad : Nat → Nat} (C : FC X Y l0 cX12_found 3 RX12 ({ frames := 1, cells := 0, slots := 0, locals := 25 } : Room) 0 0 (some .int)) (x1 : Int32) (h : ph_H) (hP : PX12_found_49  x1 h) (hR : RETi X Y ad 50 SM cX12_found (FX12_found_49  x1 h)) : FJ X Y ad 50 SM h 49 [(0, .ref (ad 0)), (1, .int x1)] [] := by
  unfold PX12_found_49 at hP
  unfold FX12_found_49 at hR
  refine j_iload_n C dX12_found_49 rfl rfl ?_
  refine j_if_ne (tgt := 60) C dX12_found_50 (by decide) (fun c0 => ?_) (fun c0 => ?_)
  · have hP := hP.2 c0
    rw [if_neg c0] at hR
    refine j_aload_n C dX12_found_60 rfl rfl ?_
    refine gM_352 (v := (h 0 73)) C dX12_found_61 rfl ?_
    exact hR _ _ dX12_found_64
  · have hP := hP.1 c0
    rw [if_pos c0] at hR
    refine j_aload_n C dX12_found_53 rfl rfl ?_
    refine gM_349 (v := (h 0 70)) C dX12_found_54 rfl ?_
    refine j_goto (tgt := 64) C dX12_found_57 (by decide) ?_
    exact hR _ _ dX12_found_64
def FX12_found_75  (x1 : Int32) (s0 : Int32) (h : ph_H) : Int32 × ph_H := if s0 < (h 0 70) then (if (x1 - x1 / 2 * 2) = 1 then (((h 40 (s0.toNatClampNeg)), h)) else (((h 41 (s0.toNatClampNeg)), h))) else (((-2), h))
def PX12_found_75  (x1 : Int32) (s0 : Int32) (h : ph_H) : Prop := (s0 < (h 0 70) → (((x1 - x1 / 2 * 2) = 1 → (vp_in s0 2 ∧ (True))) ∧ (¬ (x1 - x1 / 2 * 2) = 1 → (vp_in s0 2 ∧ (True))))) ∧ (¬ s0 < (h 0 70) → (True))
set_option maxRecDepth 100000 in
set_option maxHeartbeats 4000000 in
theorem tX12_found_75 {X : fj_X} {Y : fj_Y} {l0 : Launch} {ad : Nat → Nat} (C : FC X Y l0 cX12_found 3 RX12 ({ frames := 1, cells := 0, slots := 0, locals := 25 } : Room) 0 0 (some .int)) (x1 : Int32) (s0 : Int32) (h : ph_H) (hP : PX12_found_75  x1 s0 h) (hR : RETi X Y ad 50 SM cX12_found (FX12_found_75  x1 s0 h)) : FJ X Y ad 50 SM h 75 [(0, .ref (ad 0)), (1, .int x1)] [.int s0] := by
  unfold PX12_found_75 at hP
  unfold FX12_found_75 at hR
  refine j_istore_n C dX12_found_75 rfl (by decide) rfl ?_
  refine j_iload_n C dX12_found_76 rfl rfl ?_
  refine j_aload_n C dX12_found_77 rfl rfl ?_
  refine gM_349 (v := (h 0 70)) C dX12_found_78 rfl ?_
  refine j_icmp_lt (tgt := 89) C dX12_found_81 (by decide) (fun c0 => ?_) (fun c0 => ?_)
  · have hP := hP.1 c0
    rw [if_pos c0] at hR
    refine j_iload_n C dX12_found_89 rfl rfl ?_
    refine j_iconst (v := 2) C dX12_found_90 (by decide) ?_
    refine j_irem C dX12_found_91 (by decide) ?_
    refine j_iconst (v := 1) C dX12_found_92 (by decide) ?_
    refine j_icmp_ne (tgt := 105) C dX12_found_93 (by decide) (fun c1 => ?_) (fun c1 => ?_)
    · have hP := hP.2 c1
      rw [if_neg c1] at hR
      refine j_aload_n C dX12_found_105 rfl rfl ?_
      refine gM_137 C dX12_found_106 ?_
      refine j_iload_n C dX12_found_109 rfl rfl ?_
      obtain ⟨p3, hP⟩ := hP
      refine j_iald (k := 41) (v := (h 41 (s0.toNatClampNeg))) C dX12_found_110 (by decide) rfl p3 rfl ?_
      exact hR _ _ dX12_found_111
    · have hP := hP.1 c1
      rw [if_pos c1] at hR
      refine j_aload_n C dX12_found_96 rfl rfl ?_
      refine gM_134 C dX12_found_97 ?_
      refine j_iload_n C dX12_found_100 rfl rfl ?_
      obtain ⟨p3, hP⟩ := hP
      refine j_iald (k := 40) (v := (h 40 (s0.toNatClampNeg))) C dX12_found_101 (by decide) rfl p3 rfl ?_
      refine j_goto (tgt := 111) C dX12_found_102 (by decide) ?_
      exact hR _ _ dX12_found_111
  · have hP := hP.2 c0
    rw [if_neg c0] at hR
    refine j_bipush (v := (-2)) C dX12_found_84 (by decide) ?_
    refine j_goto (tgt := 111) C dX12_found_86 (by decide) ?_
    exact hR _ _ dX12_found_111
def FX12_found (a0 : Int32) (h : ph_H) : Int32 × ph_H := if (FX12_isIn a0.toInt64 0 6) = 0 then (((-1), (hs h 0 0 0))) else (if a0 = 6 then (((h 0 67), (hs h 0 0 0))) else (if (h 0 69) = 0 then (((-2), (hs h 0 0 0))) else (if a0 = 0 then (FX12_found_49  a0 (hs h 0 0 0)) else (if a0 = 5 then (FX12_found_49  a0 (hs h 0 0 0)) else (if 3 ≤ a0 then (FX12_found_75  a0 1 (hs h 0 0 0)) else (FX12_found_75  a0 0 (hs h 0 0 0)))))))
def PX12_found (a0 : Int32) (h : ph_H) : Prop := (PX12_isIn a0.toInt64 0 6) ∧ (((FX12_isIn a0.toInt64 0 6) = 0 → (True)) ∧ (¬ (FX12_isIn a0.toInt64 0 6) = 0 → ((a0 = 6 → (True)) ∧ (¬ a0 = 6 → (((h 0 69) = 0 → (True)) ∧ (¬ (h 0 69) = 0 → ((a0 = 0 → (PX12_found_49  a0 (hs h 0 0 0))) ∧ (¬ a0 = 0 → ((a0 = 5 → (PX12_found_49  a0 (hs h 0 0 0))) ∧ (¬ a0 = 5 → ((3 ≤ a0 → (PX12_found_75  a0 1 (hs h 0 0 0))) ∧ (¬ 3 ≤ a0 → (PX12_found_75  a0 0 (hs h 0 0 0))))))))))))))
set_option maxRecDepth 100000 in
set_option maxHeartbeats 4000000 in
theorem tX12_found {X : fj_X} {Y : fj_Y} {l0 : Launch} {ad : Nat → Nat} (C : FC X Y l0 cX12_found 3 RX12 ({ frames := 1, cells := 0, slots := 0, locals := 25 } : Room) 0 0 (some .int)) (a0 : Int32) (h : ph_H) (hP : PX12_found a0 h) (hR : RETi X Y ad 50 SM cX12_found (FX12_found a0 h)) : FJ X Y ad 50 SM h 0 [(0, .ref (ad 0)), (1, .int a0)] [] := by
  unfold PX12_found at hP
  unfold FX12_found at hR
  refine j_aload_n C dX12_found_0 rfl rfl ?_
  refine j_iconst (v := 0) C dX12_found_1 (by decide) ?_
  refine pM_164 C dX12_found_2 ?_
  refine j_iload_n C dX12_found_5 rfl rfl ?_
  refine j_i2l C dX12_found_6 ?_
  refine j_lconst (v := 0) C dX12_found_7 (by decide) ?_
  refine j_ldc2 (v := 6) C dX12_found_8 kl_RX12_372 ?_
  obtain ⟨p7, hP⟩ := hP
  refine j_callS C (MX12_isIn a0.toInt64 0 6 (hs h 0 0 0) p7) dX12_found_11 (CKX12_isIn (by decide)) ⟨rfl, rfl⟩ lk_RX12_169 st_X12_isIn rfl (Nat.le_of_ble_eq_true rfl) ?_
  intro r S' h' hq
  obtain ⟨e1, hh, e3, hb9⟩ := hq
  have e3 := e3.symm
  subst e1
  subst e3
  rw [hh]
  refine j_if_ne (tgt := 19) C dX12_found_14 (by decide) (fun c0 => ?_) (fun c0 => ?_)
  · have hP := hP.2 c0
    rw [if_neg c0] at hR
    refine j_iload_n C dX12_found_19 rfl rfl ?_
    refine j_bipush (v := 6) C dX12_found_20 (by decide) ?_
    refine j_icmp_ne (tgt := 30) C dX12_found_22 (by decide) (fun c1 => ?_) (fun c1 => ?_)
    · have hP := hP.2 c1
      rw [if_neg c1] at hR
      refine j_aload_n C dX12_found_30 rfl rfl ?_
      refine gM_346 (v := (h 0 69)) C dX12_found_31 (hz_i (by decide)) ?_
      refine j_if_ne (tgt := 40) C dX12_found_34 (by decide) (fun c2 => ?_) (fun c2 => ?_)
      · have hP := hP.2 c2
        rw [if_neg c2] at hR
        refine j_iload_n C dX12_found_40 rfl rfl ?_
        refine j_if_eq (tgt := 49) C dX12_found_41 (by decide) (fun c3 => ?_) (fun c3 => ?_)
        · have hP := hP.1 c3
          rw [if_pos c3] at hR
          exact j_vl (tX12_found_49 C  a0 (hs h 0 0 0) hP hR) ⟨rfl, rfl, trivial⟩
        · have hP := hP.2 c3
          rw [if_neg c3] at hR
          refine j_iload_n C dX12_found_44 rfl rfl ?_
          refine j_iconst (v := 5) C dX12_found_45 (by decide) ?_
          refine j_icmp_ne (tgt := 65) C dX12_found_46 (by decide) (fun c4 => ?_) (fun c4 => ?_)
          · have hP := hP.2 c4
            rw [if_neg c4] at hR
            refine j_iload_n C dX12_found_65 rfl rfl ?_
            refine j_iconst (v := 3) C dX12_found_66 (by decide) ?_
            refine j_icmp_ge (tgt := 74) C dX12_found_67 (by decide) (fun c5 => ?_) (fun c5 => ?_)
            · have hP := hP.1 c5
              rw [if_pos c5] at hR
              refine j_iconst (v := 1) C dX12_found_74 (by decide) ?_
              exact j_vl (tX12_found_75 C  a0 1 (hs h 0 0 0) hP hR) ⟨rfl, rfl, trivial⟩
            · have hP := hP.2 c5
              rw [if_neg c5] at hR
              refine j_iconst (v := 0) C dX12_found_70 (by decide) ?_
              refine j_goto (tgt := 75) C dX12_found_71 (by decide) ?_
              exact j_vl (tX12_found_75 C  a0 0 (hs h 0 0 0) hP hR) ⟨rfl, rfl, trivial⟩
          · have hP := hP.1 c4
            rw [if_pos c4] at hR
            exact j_vl (tX12_found_49 C  a0 (hs h 0 0 0) hP hR) ⟨rfl, rfl, trivial⟩
      · have hP := hP.1 c2
        rw [if_pos c2] at hR
        refine j_bipush (v := (-2)) C dX12_found_37 (by decide) ?_
        exact hR _ _ dX12_found_39
    · have hP := hP.1 c1
      rw [if_pos c1] at hR
      refine j_aload_n C dX12_found_25 rfl rfl ?_
      refine gM_343 (v := (h 0 67)) C dX12_found_26 (hz_i (by decide)) ?_
      exact hR _ _ dX12_found_29
  · have hP := hP.1 c0
    rw [if_pos c0] at hR
    refine j_iconst (v := (-1)) C dX12_found_17 (by decide) ?_
    exact hR _ _ dX12_found_18
theorem MX12_found {l0 : Launch} {Y : fj_Y} {ad : Nat → Nat} (a0 : Int32) (h : ph_H) (hP : PX12_found a0 h) : MI l0 yX12_found cX12_found 3 (some .int) ({ frames := 1, cells := 0, slots := 0, locals := 25 } : Room) Y ad 50 SM h [.ref (ad 0), .int a0] (fun r S' h' => S' = SM ∧ h' = (FX12_found a0 h).2 ∧ r = (FX12_found a0 h).1) := met_i (by decide) (Nat.le_of_ble_eq_true rfl) (fun _ _ _ _ => rfl) (fun X C K => j_vl (tX12_found C a0 h hP (fun pc lv hd => K _ _ _ ⟨rfl, rfl, rfl⟩ pc lv hd)) ⟨rfl, rfl, trivial⟩)
