-- X12_when
def FX12_when_166 (L54 : Int32 → Int32 → Int32 → Int32 → Int32 → Int32 → Int32 → Int32 → ph_H → Int32 × ph_H) (x1 : Int32) (x2 : Int32) (x3 : Int32) (x4 : Int32) (x5 : Int32) (x7 : Int32) (x8 : Int32) (x9 : Int32) (h : ph_H) : Int32 × ph_H := L54 x1 x2 x3 x4 x5 x9 x7 (x8 + 1) h
def PX12_when_166 (LP54 : Int32 → Int32 → Int32 → Int32 → Int32 → Int32 → Int32 → Int32 → ph_H → Prop) (x1 : Int32) (x2 : Int32) (x3 : Int32) (x4 : Int32) (x5 : Int32) (x7 : Int32) (x8 : Int32) (x9 : Int32) (h : ph_H) : Prop := LP54 x1 x2 x3 x4 x5 x9 x7 (x8 + 1) h
set_option maxRecDepth 100000 in
set_option maxHeartbeats 4000000 in
theorem tX12_when_166 {X : fj_X} {Y : fj_Y} {l0 : Launch} {ad : Nat → Nat} (C : FC X Y l0 cX12_when 10 RX12 ({ frames := 1, cells := 0, slots := 0, locals := 25 } : Room) 0 0 (some .int)) (L54 : Int32 → Int32 → Int32 → Int32 → Int32 → Int32 → Int32 → Int32 → ph_H → Int32 × ph_H) (LP54 : Int32 → Int32 → Int32 → Int32 → Int32 → Int32 → Int32 → Int32 → ph_H → Prop) (hL54 : ∀ (x1 : Int32) (x2 : Int32) (x3 : Int32) (x4 : Int32) (x5 : Int32) (x6 : Int32) (x7 : Int32) (x8 : Int32) (h : ph_H), LP54 x1 x2 x3 x4 x5 x6 x7 x8 h → RETi X Y ad 50 SM cX12_when (L54 x1 x2 x3 x4 x5 x6 x7 x8 h) → FJ X Y ad 50 SM h 54 [(0, .ref (ad 0)), (1, .int x1), (2, .int x2), (3, .int x3), (4, .int x4), (5, .int x5), (6, .int x6), (7, .int x7), (8, .int x8)] []) (x1 : Int32) (x2 : Int32) (x3 : Int32) (x4 : Int32) (x5 : Int32) (x7 : Int32) (x8 : Int32) (x9 : Int32) (h : ph_H) (hP : PX12_when_166 LP54 x1 x2 x3 x4 x5 x7 x8 x9 h) (hR : RETi X Y ad 50 SM cX12_when (FX12_when_166 L54 x1 x2 x3 x4 x5 x7 x8 x9 h)) : FJ X Y ad 50 SM h 166 [(0, .ref (ad 0)), (1, .int x1), (2, .int x2), (3, .int x3), (4, .int x4), (5, .int x5), (7, .int x7), (8, .int x8), (9, .int x9)] [] := by
  unfold PX12_when_166 at hP
  unfold FX12_when_166 at hR
  refine j_iload C dX12_when_166 rfl ?_
  refine j_istore C dX12_when_168 (by decide) rfl ?_
  refine j_iinc (v := (x8 + 1)) C dX12_when_170 rfl rfl (by decide) rfl ?_
  refine j_goto (tgt := 54) C dX12_when_173 (by decide) ?_
  exact j_vl (hL54 x1 x2 x3 x4 x5 x9 x7 (x8 + 1) h hP hR) ⟨rfl, rfl, rfl, rfl, rfl, rfl, rfl, rfl, rfl, trivial⟩
def FX12_when_163 (L54 : Int32 → Int32 → Int32 → Int32 → Int32 → Int32 → Int32 → Int32 → ph_H → Int32 × ph_H) (x1 : Int32) (x2 : Int32) (x3 : Int32) (x4 : Int32) (x5 : Int32) (x7 : Int32) (x8 : Int32) (x9 : Int32) (h : ph_H) : Int32 × ph_H := FX12_when_166 L54 x1 x2 x3 x4 (x5 + 1) x7 x8 x9 h
def PX12_when_163 (LP54 : Int32 → Int32 → Int32 → Int32 → Int32 → Int32 → Int32 → Int32 → ph_H → Prop) (x1 : Int32) (x2 : Int32) (x3 : Int32) (x4 : Int32) (x5 : Int32) (x7 : Int32) (x8 : Int32) (x9 : Int32) (h : ph_H) : Prop := PX12_when_166 LP54 x1 x2 x3 x4 (x5 + 1) x7 x8 x9 h
set_option maxRecDepth 100000 in
set_option maxHeartbeats 4000000 in
theorem tX12_when_163 {X : fj_X} {Y : fj_Y} {l0 : Launch} {ad : Nat → Nat} (C : FC X Y l0 cX12_when 10 RX12 ({ frames := 1, cells := 0, slots := 0, locals := 25 } : Room) 0 0 (some .int)) (L54 : Int32 → Int32 → Int32 → Int32 → Int32 → Int32 → Int32 → Int32 → ph_H → Int32 × ph_H) (LP54 : Int32 → Int32 → Int32 → Int32 → Int32 → Int32 → Int32 → Int32 → ph_H → Prop) (hL54 : ∀ (x1 : Int32) (x2 : Int32) (x3 : Int32) (x4 : Int32) (x5 : Int32) (x6 : Int32) (x7 : Int32) (x8 : Int32) (h : ph_H), LP54 x1 x2 x3 x4 x5 x6 x7 x8 h → RETi X Y ad 50 SM cX12_when (L54 x1 x2 x3 x4 x5 x6 x7 x8 h) → FJ X Y ad 50 SM h 54 [(0, .ref (ad 0)), (1, .int x1), (2, .int x2), (3, .int x3), (4, .int x4), (5, .int x5), (6, .int x6), (7, .int x7), (8, .int x8)] []) (x1 : Int32) (x2 : Int32) (x3 : Int32) (x4 : Int32) (x5 : Int32) (x7 : Int32) (x8 : Int32) (x9 : Int32) (h : ph_H) (hP : PX12_when_163 LP54 x1 x2 x3 x4 x5 x7 x8 x9 h) (hR : RETi X Y ad 50 SM cX12_when (FX12_when_163 L54 x1 x2 x3 x4 x5 x7 x8 x9 h)) : FJ X Y ad 50 SM h 163 [(0, .ref (ad 0)), (1, .int x1), (2, .int x2), (3, .int x3), (4, .int x4), (5, .int x5), (7, .int x7), (8, .int x8), (9, .int x9)] [] := by
  unfold PX12_when_163 at hP
  unfold FX12_when_163 at hR
  refine j_iinc (v := (x5 + 1)) C dX12_when_163 rfl rfl (by decide) rfl ?_
  exact j_vl (tX12_when_166 C L54 LP54 hL54 x1 x2 x3 x4 (x5 + 1) x7 x8 x9 h hP hR) ⟨rfl, rfl, rfl, rfl, rfl, rfl, rfl, rfl, rfl, trivial⟩
def FX12_when_126 (L54 : Int32 → Int32 → Int32 → Int32 → Int32 → Int32 → Int32 → Int32 → ph_H → Int32 × ph_H) (x1 : Int32) (x2 : Int32) (x3 : Int32) (x4 : Int32) (x5 : Int32) (x6 : Int32) (x7 : Int32) (x8 : Int32) (x9 : Int32) (h : ph_H) : Int32 × ph_H := if x9 = 0 then (if x6 = 0 then (FX12_when_166 L54 x1 x2 x3 x4 x5 x7 x8 x9 h) else (if x5 = x3 then (if x4 ≤ 0 then (FX12_when_163 L54 x1 x2 x3 x4 x5 x7 x8 x9 h) else (if x4 = 1 then ((x7, h)) else (((x8 - 1), h)))) else (FX12_when_163 L54 x1 x2 x3 x4 x5 x7 x8 x9 h))) else (FX12_when_166 L54 x1 x2 x3 x4 x5 x7 x8 x9 h)
def PX12_when_126 (LP54 : Int32 → Int32 → Int32 → Int32 → Int32 → Int32 → Int32 → Int32 → ph_H → Prop) (x1 : Int32) (x2 : Int32) (x3 : Int32) (x4 : Int32) (x5 : Int32) (x6 : Int32) (x7 : Int32) (x8 : Int32) (x9 : Int32) (h : ph_H) : Prop := (x9 = 0 → ((x6 = 0 → (PX12_when_166 LP54 x1 x2 x3 x4 x5 x7 x8 x9 h)) ∧ (¬ x6 = 0 → ((x5 = x3 → ((x4 ≤ 0 → (PX12_when_163 LP54 x1 x2 x3 x4 x5 x7 x8 x9 h)) ∧ (¬ x4 ≤ 0 → ((x4 = 1 → (True)) ∧ (¬ x4 = 1 → (True)))))) ∧ (¬ x5 = x3 → (PX12_when_163 LP54 x1 x2 x3 x4 x5 x7 x8 x9 h)))))) ∧ (¬ x9 = 0 → (PX12_when_166 LP54 x1 x2 x3 x4 x5 x7 x8 x9 h))
set_option maxRecDepth 100000 in
set_option maxHeartbeats 4000000 in
theorem tX12_when_126 {X : fj_X} {Y : fj_Y} {l0 : Launch} {ad : Nat → Nat} (C : FC X Y l0 cX12_when 10 RX12 ({ frames := 1, cells := 0, slots := 0, locals := 25 } : Room) 0 0 (some .int)) (L54 : Int32 → Int32 → Int32 → Int32 → Int32 → Int32 → Int32 → Int32 → ph_H → Int32 × ph_H) (LP54 : Int32 → Int32 → Int32 → Int32 → Int32 → Int32 → Int32 → Int32 → ph_H → Prop) (hL54 : ∀ (x1 : Int32) (x2 : Int32) (x3 : Int32) (x4 : Int32) (x5 : Int32) (x6 : Int32) (x7 : Int32) (x8 : Int32) (h : ph_H), LP54 x1 x2 x3 x4 x5 x6 x7 x8 h → RETi X Y ad 50 SM cX12_when (L54 x1 x2 x3 x4 x5 x6 x7 x8 h) → FJ X Y ad 50 SM h 54 [(0, .ref (ad 0)), (1, .int x1), (2, .int x2), (3, .int x3), (4, .int x4), (5, .int x5), (6, .int x6), (7, .int x7), (8, .int x8)] []) (x1 : Int32) (x2 : Int32) (x3 : Int32) (x4 : Int32) (x5 : Int32) (x6 : Int32) (x7 : Int32) (x8 : Int32) (x9 : Int32) (h : ph_H) (hP : PX12_when_126 LP54 x1 x2 x3 x4 x5 x6 x7 x8 x9 h) (hR : RETi X Y ad 50 SM cX12_when (FX12_when_126 L54 x1 x2 x3 x4 x5 x6 x7 x8 x9 h)) : FJ X Y ad 50 SM h 126 [(0, .ref (ad 0)), (1, .int x1), (2, .int x2), (3, .int x3), (4, .int x4), (5, .int x5), (6, .int x6), (7, .int x7), (8, .int x8), (9, .int x9)] [] := by
  unfold PX12_when_126 at hP
  unfold FX12_when_126 at hR
  refine j_iload C dX12_when_126 rfl ?_
  refine j_if_ne (tgt := 166) C dX12_when_128 (by decide) (fun c0 => ?_) (fun c0 => ?_)
  · have hP := hP.2 c0
    rw [if_neg c0] at hR
    exact j_vl (tX12_when_166 C L54 LP54 hL54 x1 x2 x3 x4 x5 x7 x8 x9 h hP hR) ⟨rfl, rfl, rfl, rfl, rfl, rfl, rfl, rfl, rfl, trivial⟩
  · have hP := hP.1 c0
    rw [if_pos c0] at hR
    refine j_iload C dX12_when_131 rfl ?_
    refine j_if_eq (tgt := 166) C dX12_when_133 (by decide) (fun c1 => ?_) (fun c1 => ?_)
    · have hP := hP.1 c1
      rw [if_pos c1] at hR
      exact j_vl (tX12_when_166 C L54 LP54 hL54 x1 x2 x3 x4 x5 x7 x8 x9 h hP hR) ⟨rfl, rfl, rfl, rfl, rfl, rfl, rfl, rfl, rfl, trivial⟩
    · have hP := hP.2 c1
      rw [if_neg c1] at hR
      refine j_iload C dX12_when_136 rfl ?_
      refine j_iload_n C dX12_when_138 rfl rfl ?_
      refine j_icmp_ne (tgt := 163) C dX12_when_139 (by decide) (fun c2 => ?_) (fun c2 => ?_)
      · have hP := hP.2 c2
        rw [if_neg c2] at hR
        exact j_vl (tX12_when_163 C L54 LP54 hL54 x1 x2 x3 x4 x5 x7 x8 x9 h hP hR) ⟨rfl, rfl, rfl, rfl, rfl, rfl, rfl, rfl, rfl, trivial⟩
      · have hP := hP.1 c2
        rw [if_pos c2] at hR
        refine j_iload C dX12_when_142 rfl ?_
        refine j_if_le (tgt := 163) C dX12_when_144 (by decide) (fun c3 => ?_) (fun c3 => ?_)
        · have hP := hP.1 c3
          rw [if_pos c3] at hR
          exact j_vl (tX12_when_163 C L54 LP54 hL54 x1 x2 x3 x4 x5 x7 x8 x9 h hP hR) ⟨rfl, rfl, rfl, rfl, rfl, rfl, rfl, rfl, rfl, trivial⟩
        · have hP := hP.2 c3
          rw [if_neg c3] at hR
          refine j_iload C dX12_when_147 rfl ?_
          refine j_iconst (v := 1) C dX12_when_149 (by decide) ?_
          refine j_icmp_ne (tgt := 158) C dX12_when_150 (by decide) (fun c4 => ?_) (fun c4 => ?_)
          · have hP := hP.2 c4
            rw [if_neg c4] at hR
            refine j_iload C dX12_when_158 rfl ?_
            refine j_iconst (v := 1) C dX12_when_160 (by decide) ?_
            refine j_isub C dX12_when_161 ?_
            exact hR _ _ dX12_when_162
          · have hP := hP.1 c4
            rw [if_pos c4] at hR
            refine j_iload C dX12_when_153 rfl ?_
            refine j_goto (tgt := 162) C dX12_when_155 (by decide) ?_
            exact hR _ _ dX12_when_162
def FX12_when_110 (L54 : Int32 → Int32 → Int32 → Int32 → Int32 → Int32 → Int32 → Int32 → ph_H → Int32 × ph_H) (x1 : Int32) (x2 : Int32) (x3 : Int32) (x4 : Int32) (x5 : Int32) (x6 : Int32) (x7 : Int32) (x8 : Int32) (s0 : Int32) (h : ph_H) : Int32 × ph_H := if s0 = 0 then (FX12_when_126 L54 x1 x2 x3 x4 x5 x6 x7 x8 s0 h) else (if x6 = 0 then (FX12_when_126 L54 x1 x2 x3 x4 x5 x6 x8 x8 s0 h) else (FX12_when_126 L54 x1 x2 x3 x4 x5 x6 x7 x8 s0 h))
def PX12_when_110 (LP54 : Int32 → Int32 → Int32 → Int32 → Int32 → Int32 → Int32 → Int32 → ph_H → Prop) (x1 : Int32) (x2 : Int32) (x3 : Int32) (x4 : Int32) (x5 : Int32) (x6 : Int32) (x7 : Int32) (x8 : Int32) (s0 : Int32) (h : ph_H) : Prop := (s0 = 0 → (PX12_when_126 LP54 x1 x2 x3 x4 x5 x6 x7 x8 s0 h)) ∧ (¬ s0 = 0 → ((x6 = 0 → (PX12_when_126 LP54 x1 x2 x3 x4 x5 x6 x8 x8 s0 h)) ∧ (¬ x6 = 0 → (PX12_when_126 LP54 x1 x2 x3 x4 x5 x6 x7 x8 s0 h))))
set_option maxRecDepth 100000 in
set_option maxHeartbeats 4000000 in
theorem tX12_when_110 {X : fj_X} {Y : fj_Y} {l0 : Launch} {ad : Nat → Nat} (C : FC X Y l0 cX12_when 10 RX12 ({ frames := 1, cells := 0, slots := 0, locals := 25 } : Room) 0 0 (some .int)) (L54 : Int32 → Int32 → Int32 → Int32 → Int32 → Int32 → Int32 → Int32 → ph_H → Int32 × ph_H) (LP54 : Int32 → Int32 → Int32 → Int32 → Int32 → Int32 → Int32 → Int32 → ph_H → Prop) (hL54 : ∀ (x1 : Int32) (x2 : Int32) (x3 : Int32) (x4 : Int32) (x5 : Int32) (x6 : Int32) (x7 : Int32) (x8 : Int32) (h : ph_H), LP54 x1 x2 x3 x4 x5 x6 x7 x8 h → RETi X Y ad 50 SM cX12_when (L54 x1 x2 x3 x4 x5 x6 x7 x8 h) → FJ X Y ad 50 SM h 54 [(0, .ref (ad 0)), (1, .int x1), (2, .int x2), (3, .int x3), (4, .int x4), (5, .int x5), (6, .int x6), (7, .int x7), (8, .int x8)] []) (x1 : Int32) (x2 : Int32) (x3 : Int32) (x4 : Int32) (x5 : Int32) (x6 : Int32) (x7 : Int32) (x8 : Int32) (s0 : Int32) (h : ph_H) (hP : PX12_when_110 LP54 x1 x2 x3 x4 x5 x6 x7 x8 s0 h) (hR : RETi X Y ad 50 SM cX12_when (FX12_when_110 L54 x1 x2 x3 x4 x5 x6 x7 x8 s0 h)) : FJ X Y ad 50 SM h 110 [(0, .ref (ad 0)), (1, .int x1), (2, .int x2), (3, .int x3), (4, .int x4), (5, .int x5), (6, .int x6), (7, .int x7), (8, .int x8)] [.int s0] := by
  unfold PX12_when_110 at hP
  unfold FX12_when_110 at hR
  refine j_istore C dX12_when_110 (by decide) rfl ?_
  refine j_iload C dX12_when_112 rfl ?_
  refine j_if_eq (tgt := 126) C dX12_when_114 (by decide) (fun c0 => ?_) (fun c0 => ?_)
  · have hP := hP.1 c0
    rw [if_pos c0] at hR
    exact j_vl (tX12_when_126 C L54 LP54 hL54 x1 x2 x3 x4 x5 x6 x7 x8 s0 h hP hR) ⟨rfl, rfl, rfl, rfl, rfl, rfl, rfl, rfl, rfl, rfl, trivial⟩
  · have hP := hP.2 c0
    rw [if_neg c0] at hR
    refine j_iload C dX12_when_117 rfl ?_
    refine j_if_ne (tgt := 126) C dX12_when_119 (by decide) (fun c1 => ?_) (fun c1 => ?_)
    · have hP := hP.2 c1
      rw [if_neg c1] at hR
      exact j_vl (tX12_when_126 C L54 LP54 hL54 x1 x2 x3 x4 x5 x6 x7 x8 s0 h hP hR) ⟨rfl, rfl, rfl, rfl, rfl, rfl, rfl, rfl, rfl, rfl, trivial⟩
    · have hP := hP.1 c1
      rw [if_pos c1] at hR
      refine j_iload C dX12_when_122 rfl ?_
      refine j_istore C dX12_when_124 (by decide) rfl ?_
      exact j_vl (tX12_when_126 C L54 LP54 hL54 x1 x2 x3 x4 x5 x6 x8 x8 s0 h hP hR) ⟨rfl, rfl, rfl, rfl, rfl, rfl, rfl, rfl, rfl, rfl, trivial⟩
def FX12_when_109 (L54 : Int32 → Int32 → Int32 → Int32 → Int32 → Int32 → Int32 → Int32 → ph_H → Int32 × ph_H) (x1 : Int32) (x2 : Int32) (x3 : Int32) (x4 : Int32) (x5 : Int32) (x6 : Int32) (x7 : Int32) (x8 : Int32) (h : ph_H) : Int32 × ph_H := FX12_when_110 L54 x1 x2 x3 x4 x5 x6 x7 x8 0 h
def PX12_when_109 (LP54 : Int32 → Int32 → Int32 → Int32 → Int32 → Int32 → Int32 → Int32 → ph_H → Prop) (x1 : Int32) (x2 : Int32) (x3 : Int32) (x4 : Int32) (x5 : Int32) (x6 : Int32) (x7 : Int32) (x8 : Int32) (h : ph_H) : Prop := PX12_when_110 LP54 x1 x2 x3 x4 x5 x6 x7 x8 0 h
set_option maxRecDepth 100000 in
set_option maxHeartbeats 4000000 in
theorem tX12_when_109 {X : fj_X} {Y : fj_Y} {l0 : Launch} {ad : Nat → Nat} (C : FC X Y l0 cX12_when 10 RX12 ({ frames := 1, cells := 0, slots := 0, locals := 25 } : Room) 0 0 (some .int)) (L54 : Int32 → Int32 → Int32 → Int32 → Int32 → Int32 → Int32 → Int32 → ph_H → Int32 × ph_H) (LP54 : Int32 → Int32 → Int32 → Int32 → Int32 → Int32 → Int32 → Int32 → ph_H → Prop) (hL54 : ∀ (x1 : Int32) (x2 : Int32) (x3 : Int32) (x4 : Int32) (x5 : Int32) (x6 : Int32) (x7 : Int32) (x8 : Int32) (h : ph_H), LP54 x1 x2 x3 x4 x5 x6 x7 x8 h → RETi X Y ad 50 SM cX12_when (L54 x1 x2 x3 x4 x5 x6 x7 x8 h) → FJ X Y ad 50 SM h 54 [(0, .ref (ad 0)), (1, .int x1), (2, .int x2), (3, .int x3), (4, .int x4), (5, .int x5), (6, .int x6), (7, .int x7), (8, .int x8)] []) (x1 : Int32) (x2 : Int32) (x3 : Int32) (x4 : Int32) (x5 : Int32) (x6 : Int32) (x7 : Int32) (x8 : Int32) (h : ph_H) (hP : PX12_when_109 LP54 x1 x2 x3 x4 x5 x6 x7 x8 h) (hR : RETi X Y ad 50 SM cX12_when (FX12_when_109 L54 x1 x2 x3 x4 x5 x6 x7 x8 h)) : FJ X Y ad 50 SM h 109 [(0, .ref (ad 0)), (1, .int x1), (2, .int x2), (3, .int x3), (4, .int x4), (5, .int x5), (6, .int x6), (7, .int x7), (8, .int x8)] [] := by
  unfold PX12_when_109 at hP
  unfold FX12_when_109 at hR
  refine j_iconst (v := 0) C dX12_when_109 (by decide) ?_
  exact j_vl (tX12_when_110 C L54 LP54 hL54 x1 x2 x3 x4 x5 x6 x7 x8 0 h hP hR) ⟨rfl, rfl, rfl, rfl, rfl, rfl, rfl, rfl, rfl, trivial⟩
def FX12_when_54  : Nat → Int32 → Int32 → Int32 → Int32 → Int32 → Int32 → Int32 → Int32 → ph_H → Int32 × ph_H
  | 0, _, _, _, _, _, _, _, _, h => (0, h)
  | q + 1, x1, x2, x3, x4, x5, x6, x7, x8, h => if ((h 0 38) + 1) < x8 then (if x4 = 0 then ((x5, h)) else (((-1), h))) else (if (h 0 38) < x8 then (FX12_when_109 (FX12_when_54  q) x1 x2 x3 x4 x5 x6 x7 x8 h) else (if (h 20 (((28 * x8) + x1).toNatClampNeg)) = 0 then (if (h 21 (((28 * x8) + x1).toNatClampNeg)) = x2 then (FX12_when_110 (FX12_when_54  q) x1 x2 x3 x4 x5 x6 x7 x8 1 h) else (FX12_when_109 (FX12_when_54  q) x1 x2 x3 x4 x5 x6 x7 x8 h)) else (FX12_when_109 (FX12_when_54  q) x1 x2 x3 x4 x5 x6 x7 x8 h)))
def PX12_when_54  : Nat → Int32 → Int32 → Int32 → Int32 → Int32 → Int32 → Int32 → Int32 → ph_H → Prop
  | 0, _, _, _, _, _, _, _, _, _ => False
  | q + 1, x1, x2, x3, x4, x5, x6, x7, x8, h => (((h 0 38) + 1) < x8 → ((x4 = 0 → (True)) ∧ (¬ x4 = 0 → (True)))) ∧ (¬ ((h 0 38) + 1) < x8 → (((h 0 38) < x8 → (PX12_when_109 (PX12_when_54  q) x1 x2 x3 x4 x5 x6 x7 x8 h)) ∧ (¬ (h 0 38) < x8 → (vp_in ((28 * x8) + x1) 8428 ∧ (((h 20 (((28 * x8) + x1).toNatClampNeg)) = 0 → (vp_in ((28 * x8) + x1) 8428 ∧ (((h 21 (((28 * x8) + x1).toNatClampNeg)) = x2 → (PX12_when_110 (PX12_when_54  q) x1 x2 x3 x4 x5 x6 x7 x8 1 h)) ∧ (¬ (h 21 (((28 * x8) + x1).toNatClampNeg)) = x2 → (PX12_when_109 (PX12_when_54  q) x1 x2 x3 x4 x5 x6 x7 x8 h))))) ∧ (¬ (h 20 (((28 * x8) + x1).toNatClampNeg)) = 0 → (PX12_when_109 (PX12_when_54  q) x1 x2 x3 x4 x5 x6 x7 x8 h)))))))
set_option maxRecDepth 100000 in
set_option maxHeartbeats 4000000 in
theorem tX12_when_54 {X : fj_X} {Y : fj_Y} {l0 : Launch} {ad : Nat → Nat} (C : FC X Y l0 cX12_when 10 RX12 ({ frames := 1, cells := 0, slots := 0, locals := 25 } : Room) 0 0 (some .int)) : ∀ (q : Nat) (x1 : Int32) (x2 : Int32) (x3 : Int32) (x4 : Int32) (x5 : Int32) (x6 : Int32) (x7 : Int32) (x8 : Int32) (h : ph_H), PX12_when_54  q x1 x2 x3 x4 x5 x6 x7 x8 h → RETi X Y ad 50 SM cX12_when (FX12_when_54  q x1 x2 x3 x4 x5 x6 x7 x8 h) → FJ X Y ad 50 SM h 54 [(0, .ref (ad 0)), (1, .int x1), (2, .int x2), (3, .int x3), (4, .int x4), (5, .int x5), (6, .int x6), (7, .int x7), (8, .int x8)] [] := by
  intro q
  induction q with
  | zero =>
    intro x1 x2 x3 x4 x5 x6 x7 x8 h hP hR
    exact absurd hP id
  | succ q ih =>
    intro x1 x2 x3 x4 x5 x6 x7 x8 h hP hR
    unfold PX12_when_54 at hP
    unfold FX12_when_54 at hR
    refine j_iload C dX12_when_54 rfl ?_
    refine j_aload_n C dX12_when_56 rfl rfl ?_
    refine gM_304 (v := (h 0 38)) C dX12_when_57 rfl ?_
    refine j_iconst (v := 1) C dX12_when_60 (by decide) ?_
    refine j_iadd C dX12_when_61 ?_
    refine j_icmp_gt (tgt := 176) C dX12_when_62 (by decide) (fun c0 => ?_) (fun c0 => ?_)
    · have hP := hP.1 c0
      rw [if_pos c0] at hR
      refine j_iload C dX12_when_176 rfl ?_
      refine j_if_ne (tgt := 186) C dX12_when_178 (by decide) (fun c1 => ?_) (fun c1 => ?_)
      · have hP := hP.2 c1
        rw [if_neg c1] at hR
        refine j_iconst (v := (-1)) C dX12_when_186 (by decide) ?_
        exact hR _ _ dX12_when_187
      · have hP := hP.1 c1
        rw [if_pos c1] at hR
        refine j_iload C dX12_when_181 rfl ?_
        refine j_goto (tgt := 187) C dX12_when_183 (by decide) ?_
        exact hR _ _ dX12_when_187
    · have hP := hP.2 c0
      rw [if_neg c0] at hR
      refine j_iload C dX12_when_65 rfl ?_
      refine j_aload_n C dX12_when_67 rfl rfl ?_
      refine gM_304 (v := (h 0 38)) C dX12_when_68 rfl ?_
      refine j_icmp_gt (tgt := 109) C dX12_when_71 (by decide) (fun c1 => ?_) (fun c1 => ?_)
      · have hP := hP.1 c1
        rw [if_pos c1] at hR
        exact j_vl (tX12_when_109 C (FX12_when_54  q) (PX12_when_54  q) (ih) x1 x2 x3 x4 x5 x6 x7 x8 h hP hR) ⟨rfl, rfl, rfl, rfl, rfl, rfl, rfl, rfl, rfl, trivial⟩
      · have hP := hP.2 c1
        rw [if_neg c1] at hR
        refine j_aload_n C dX12_when_74 rfl rfl ?_
        refine gM_68 C dX12_when_75 ?_
        refine j_bipush (v := 28) C dX12_when_78 (by decide) ?_
        refine j_iload C dX12_when_80 rfl ?_
        refine j_imul C dX12_when_82 ?_
        refine j_iload_n C dX12_when_83 rfl rfl ?_
        refine j_iadd C dX12_when_84 ?_
        obtain ⟨p7, hP⟩ := hP
        refine j_iald (k := 20) (v := (h 20 (((28 * x8) + x1).toNatClampNeg))) C dX12_when_85 (by decide) rfl p7 rfl ?_
        refine j_if_ne (tgt := 109) C dX12_when_86 (by decide) (fun c2 => ?_) (fun c2 => ?_)
        · have hP := hP.2 c2
          rw [if_neg c2] at hR
          exact j_vl (tX12_when_109 C (FX12_when_54  q) (PX12_when_54  q) (ih) x1 x2 x3 x4 x5 x6 x7 x8 h hP hR) ⟨rfl, rfl, rfl, rfl, rfl, rfl, rfl, rfl, rfl, trivial⟩
        · have hP := hP.1 c2
          rw [if_pos c2] at hR
          refine j_aload_n C dX12_when_89 rfl rfl ?_
          refine gM_71 C dX12_when_90 ?_
          refine j_bipush (v := 28) C dX12_when_93 (by decide) ?_
          refine j_iload C dX12_when_95 rfl ?_
          refine j_imul C dX12_when_97 ?_
          refine j_iload_n C dX12_when_98 rfl rfl ?_
          refine j_iadd C dX12_when_99 ?_
          obtain ⟨p7, hP⟩ := hP
          refine j_iald (k := 21) (v := (h 21 (((28 * x8) + x1).toNatClampNeg))) C dX12_when_100 (by decide) rfl p7 rfl ?_
          refine j_iload_n C dX12_when_101 rfl rfl ?_
          refine j_icmp_ne (tgt := 109) C dX12_when_102 (by decide) (fun c3 => ?_) (fun c3 => ?_)
          · have hP := hP.2 c3
            rw [if_neg c3] at hR
            exact j_vl (tX12_when_109 C (FX12_when_54  q) (PX12_when_54  q) (ih) x1 x2 x3 x4 x5 x6 x7 x8 h hP hR) ⟨rfl, rfl, rfl, rfl, rfl, rfl, rfl, rfl, rfl, trivial⟩
          · have hP := hP.1 c3
            rw [if_pos c3] at hR
            refine j_iconst (v := 1) C dX12_when_105 (by decide) ?_
            refine j_goto (tgt := 110) C dX12_when_106 (by decide) ?_
            exact j_vl (tX12_when_110 C (FX12_when_54  q) (PX12_when_54  q) (ih) x1 x2 x3 x4 x5 x6 x7 x8 1 h hP hR) ⟨rfl, rfl, rfl, rfl, rfl, rfl, rfl, rfl, rfl, trivial⟩
def FX12_when (a0 : Int32) (a1 : Int32) (a2 : Int32) (a3 : Int32) (h : ph_H) : Int32 × ph_H := if (h 0 36) = 0 then (((-2), (hs h 0 0 0))) else (if (FX12_isIn a0.toInt64 0 11) = 0 then (((-1), (hs h 0 0 0))) else (if (FX12_isIn a3.toInt64 0 2) = 0 then (((-1), (hs h 0 0 0))) else (FX12_when_54 2000 a0 a1 a2 a3 0 0 (-1) 0 (hs h 0 0 0))))
def PX12_when (a0 : Int32) (a1 : Int32) (a2 : Int32) (a3 : Int32) (h : ph_H) : Prop := ((h 0 36) = 0 → (True)) ∧ (¬ (h 0 36) = 0 → ((PX12_isIn a0.toInt64 0 11) ∧ (((FX12_isIn a0.toInt64 0 11) = 0 → (True)) ∧ (¬ (FX12_isIn a0.toInt64 0 11) = 0 → ((PX12_isIn a3.toInt64 0 2) ∧ (((FX12_isIn a3.toInt64 0 2) = 0 → (True)) ∧ (¬ (FX12_isIn a3.toInt64 0 2) = 0 → (PX12_when_54 2000 a0 a1 a2 a3 0 0 (-1) 0 (hs h 0 0 0)))))))))
set_option maxRecDepth 100000 in
set_option maxHeartbeats 4000000 in
theorem tX12_when {X : fj_X} {Y : fj_Y} {l0 : Launch} {ad : Nat → Nat} (C : FC X Y l0 cX12_when 10 RX12 ({ frames := 1, cells := 0, slots := 0, locals := 25 } : Room) 0 0 (some .int)) (a0 : Int32) (a1 : Int32) (a2 : Int32) (a3 : Int32) (h : ph_H) (hP : PX12_when a0 a1 a2 a3 h) (hR : RETi X Y ad 50 SM cX12_when (FX12_when a0 a1 a2 a3 h)) : FJ X Y ad 50 SM h 0 [(0, .ref (ad 0)), (1, .int a0), (2, .int a1), (3, .int a2), (4, .int a3)] [] := by
  unfold PX12_when at hP
  unfold FX12_when at hR
  refine j_aload_n C dX12_when_0 rfl rfl ?_
  refine j_iconst (v := 0) C dX12_when_1 (by decide) ?_
  refine pM_164 C dX12_when_2 ?_
  refine j_aload_n C dX12_when_5 rfl rfl ?_
  refine gM_294 (v := (h 0 36)) C dX12_when_6 (hz_i (by decide)) ?_
  refine j_if_ne (tgt := 15) C dX12_when_9 (by decide) (fun c0 => ?_) (fun c0 => ?_)
  · have hP := hP.2 c0
    rw [if_neg c0] at hR
    refine j_iload_n C dX12_when_15 rfl rfl ?_
    refine j_i2l C dX12_when_16 ?_
    refine j_lconst (v := 0) C dX12_when_17 (by decide) ?_
    refine j_ldc2 (v := 11) C dX12_when_18 kl_RX12_175 ?_
    obtain ⟨p4, hP⟩ := hP
    refine j_callS C (MX12_isIn a0.toInt64 0 11 (hs h 0 0 0) p4) dX12_when_21 (CKX12_isIn (by decide)) ⟨rfl, rfl⟩ lk_RX12_169 st_X12_isIn rfl (Nat.le_of_ble_eq_true rfl) ?_
    intro r S' h' hq
    obtain ⟨rfl, hh, rfl, hb6⟩ := hq
    rw [hh]
    refine j_if_eq (tgt := 40) C dX12_when_24 (by decide) (fun c1 => ?_) (fun c1 => ?_)
    · have hP := hP.1 c1
      rw [if_pos c1] at hR
      refine j_iconst (v := (-1)) C dX12_when_40 (by decide) ?_
      exact hR _ _ dX12_when_41
    · have hP := hP.2 c1
      rw [if_neg c1] at hR
      refine j_iload C dX12_when_27 rfl ?_
      refine j_i2l C dX12_when_29 ?_
      refine j_lconst (v := 0) C dX12_when_30 (by decide) ?_
      refine j_ldc2 (v := 2) C dX12_when_31 kl_RX12_325 ?_
      obtain ⟨p4, hP⟩ := hP
      refine j_callS C (MX12_isIn a3.toInt64 0 2 (hs h 0 0 0) p4) dX12_when_34 (CKX12_isIn (by decide)) ⟨rfl, rfl⟩ lk_RX12_169 st_X12_isIn rfl (Nat.le_of_ble_eq_true rfl) ?_
      intro r S' h' hq
      obtain ⟨rfl, hh, rfl, hb6⟩ := hq
      rw [hh]
      refine j_if_ne (tgt := 42) C dX12_when_37 (by decide) (fun c2 => ?_) (fun c2 => ?_)
      · have hP := hP.2 c2
        rw [if_neg c2] at hR
        refine j_iconst (v := 0) C dX12_when_42 (by decide) ?_
        refine j_istore C dX12_when_43 (by decide) rfl ?_
        refine j_iconst (v := 0) C dX12_when_45 (by decide) ?_
        refine j_istore C dX12_when_46 (by decide) rfl ?_
        refine j_iconst (v := (-1)) C dX12_when_48 (by decide) ?_
        refine j_istore C dX12_when_49 (by decide) rfl ?_
        refine j_iconst (v := 0) C dX12_when_51 (by decide) ?_
        refine j_istore C dX12_when_52 (by decide) rfl ?_
        exact j_vl (tX12_when_54 C 2000 a0 a1 a2 a3 0 0 (-1) 0 (hs h 0 0 0) hP hR) ⟨rfl, rfl, rfl, rfl, rfl, rfl, rfl, rfl, rfl, trivial⟩
      · have hP := hP.1 c2
        rw [if_pos c2] at hR
        refine j_iconst (v := (-1)) C dX12_when_40 (by decide) ?_
        exact hR _ _ dX12_when_41
  · have hP := hP.1 c0
    rw [if_pos c0] at hR
    refine j_bipush (v := (-2)) C dX12_when_12 (by decide) ?_
    exact hR _ _ dX12_when_14
theorem MX12_when {l0 : Launch} {Y : fj_Y} {ad : Nat → Nat} (a0 : Int32) (a1 : Int32) (a2 : Int32) (a3 : Int32) (h : ph_H) (hP : PX12_when a0 a1 a2 a3 h) : MI l0 yX12_when cX12_when 10 (some .int) ({ frames := 1, cells := 0, slots := 0, locals := 25 } : Room) Y ad 50 SM h [.ref (ad 0), .int a0, .int a1, .int a2, .int a3] (fun r S' h' => S' = SM ∧ h' = (FX12_when a0 a1 a2 a3 h).2 ∧ r = (FX12_when a0 a1 a2 a3 h).1) := met_i (by decide) (Nat.le_of_ble_eq_true rfl) (fun _ _ _ _ => rfl) (fun X C K => j_vl (tX12_when C a0 a1 a2 a3 h hP (fun pc lv hd => K _ _ _ ⟨rfl, rfl, rfl⟩ pc lv hd)) ⟨rfl, rfl, rfl, rfl, rfl, trivial⟩)

-- X12_isWaking
def FX12_isWaking_81 (L53 : Int32 → Int32 → Int32 → Int32 → ph_H → Int32) (x1 : Int32) (x2 : Int32) (x4 : Int32) (s0 : Int32) (h : ph_H) : Int32 := L53 x1 x2 s0 (x4 + 1) h
def PX12_isWaking_81 (LP53 : Int32 → Int32 → Int32 → Int32 → ph_H → Prop) (x1 : Int32) (x2 : Int32) (x4 : Int32) (s0 : Int32) (h : ph_H) : Prop := LP53 x1 x2 s0 (x4 + 1) h
set_option maxRecDepth 100000 in
set_option maxHeartbeats 4000000 in
theorem tX12_isWaking_81 {X : fj_X} {Y : fj_Y} {l0 : Launch} {ad : Nat → Nat} (C : FC X Y l0 cX12_isWaking 6 RX12 ({ frames := 0, cells := 0, slots := 0, locals := 0 } : Room) 0 0 (some .boolean)) (h : ph_H) (L53 : Int32 → Int32 → Int32 → Int32 → ph_H → Int32) (LP53 : Int32 → Int32 → Int32 → Int32 → ph_H → Prop) (hL53 : ∀ (x1 : Int32) (x2 : Int32) (x3 : Int32) (x4 : Int32), LP53 x1 x2 x3 x4 h → RETq X Y ad 50 SM h cX12_isWaking (L53 x1 x2 x3 x4 h) → FJ X Y ad 50 SM h 53 [(0, .ref (ad 0)), (1, .int x1), (2, .int x2), (3, .int x3), (4, .int x4)] []) (x1 : Int32) (x2 : Int32) (x4 : Int32) (s0 : Int32) (hP : PX12_isWaking_81 LP53 x1 x2 x4 s0 h) (hR : RETq X Y ad 50 SM h cX12_isWaking (FX12_isWaking_81 L53 x1 x2 x4 s0 h)) : FJ X Y ad 50 SM h 81 [(0, .ref (ad 0)), (1, .int x1), (2, .int x2), (4, .int x4)] [.int s0] := by
  unfold PX12_isWaking_81 at hP
  unfold FX12_isWaking_81 at hR
  refine j_istore_n C dX12_isWaking_81 rfl (by decide) rfl ?_
  refine j_iinc (v := (x4 + 1)) C dX12_isWaking_82 rfl rfl (by decide) rfl ?_
  refine j_goto (tgt := 53) C dX12_isWaking_85 (by decide) ?_
  exact j_vl (hL53 x1 x2 s0 (x4 + 1) hP hR) ⟨rfl, rfl, rfl, rfl, rfl, trivial⟩
def FX12_isWaking_148 (L105 : Int32 → Int32 → Int32 → ph_H → Int32) (x1 : Int32) (x5 : Int32) (s0 : Int32) (h : ph_H) : Int32 := L105 x1 s0 (x5 + 1) h
def PX12_isWaking_148 (LP105 : Int32 → Int32 → Int32 → ph_H → Prop) (x1 : Int32) (x5 : Int32) (s0 : Int32) (h : ph_H) : Prop := LP105 x1 s0 (x5 + 1) h
set_option maxRecDepth 100000 in
set_option maxHeartbeats 4000000 in
theorem tX12_isWaking_148 {X : fj_X} {Y : fj_Y} {l0 : Launch} {ad : Nat → Nat} (C : FC X Y l0 cX12_isWaking 6 RX12 ({ frames := 0, cells := 0, slots := 0, locals := 0 } : Room) 0 0 (some .boolean)) (h : ph_H) (L105 : Int32 → Int32 → Int32 → ph_H → Int32) (LP105 : Int32 → Int32 → Int32 → ph_H → Prop) (hL105 : ∀ (x1 : Int32) (x4 : Int32) (x5 : Int32), LP105 x1 x4 x5 h → RETq X Y ad 50 SM h cX12_isWaking (L105 x1 x4 x5 h) → FJ X Y ad 50 SM h 105 [(0, .ref (ad 0)), (1, .int x1), (4, .int x4), (5, .int x5)] []) (x1 : Int32) (x5 : Int32) (s0 : Int32) (hP : PX12_isWaking_148 LP105 x1 x5 s0 h) (hR : RETq X Y ad 50 SM h cX12_isWaking (FX12_isWaking_148 L105 x1 x5 s0 h)) : FJ X Y ad 50 SM h 148 [(0, .ref (ad 0)), (1, .int x1), (5, .int x5)] [.int s0] := by
  unfold PX12_isWaking_148 at hP
  unfold FX12_isWaking_148 at hR
  refine j_istore C dX12_isWaking_148 (by decide) rfl ?_
  refine j_iinc (v := (x5 + 1)) C dX12_isWaking_150 rfl rfl (by decide) rfl ?_
  refine j_goto (tgt := 105) C dX12_isWaking_153 (by decide) ?_
  exact j_vl (hL105 x1 s0 (x5 + 1) hP hR) ⟨rfl, rfl, rfl, rfl, trivial⟩
def FX12_isWaking_143 (L105 : Int32 → Int32 → Int32 → ph_H → Int32) (x1 : Int32) (x5 : Int32) (h : ph_H) : Int32 := FX12_isWaking_148 L105 x1 x5 1 h
def PX12_isWaking_143 (LP105 : Int32 → Int32 → Int32 → ph_H → Prop) (x1 : Int32) (x5 : Int32) (h : ph_H) : Prop := PX12_isWaking_148 LP105 x1 x5 1 h
set_option maxRecDepth 100000 in
set_option maxHeartbeats 4000000 in
theorem tX12_isWaking_143 {X : fj_X} {Y : fj_Y} {l0 : Launch} {ad : Nat → Nat} (C : FC X Y l0 cX12_isWaking 6 RX12 ({ frames := 0, cells := 0, slots := 0, locals := 0 } : Room) 0 0 (some .boolean)) (h : ph_H) (L105 : Int32 → Int32 → Int32 → ph_H → Int32) (LP105 : Int32 → Int32 → Int32 → ph_H → Prop) (hL105 : ∀ (x1 : Int32) (x4 : Int32) (x5 : Int32), LP105 x1 x4 x5 h → RETq X Y ad 50 SM h cX12_isWaking (L105 x1 x4 x5 h) → FJ X Y ad 50 SM h 105 [(0, .ref (ad 0)), (1, .int x1), (4, .int x4), (5, .int x5)] []) (x1 : Int32) (x5 : Int32) (hP : PX12_isWaking_143 LP105 x1 x5 h) (hR : RETq X Y ad 50 SM h cX12_isWaking (FX12_isWaking_143 L105 x1 x5 h)) : FJ X Y ad 50 SM h 143 [(0, .ref (ad 0)), (1, .int x1), (5, .int x5)] [] := by
  unfold PX12_isWaking_143 at hP
  unfold FX12_isWaking_143 at hR
  refine j_iconst (v := 1) C dX12_isWaking_143 (by decide) ?_
  refine j_goto (tgt := 148) C dX12_isWaking_144 (by decide) ?_
  exact j_vl (tX12_isWaking_148 C h L105 LP105 hL105 x1 x5 1 hP hR) ⟨rfl, rfl, rfl, trivial⟩
def FX12_isWaking_147 (L105 : Int32 → Int32 → Int32 → ph_H → Int32) (x1 : Int32) (x5 : Int32) (h : ph_H) : Int32 := FX12_isWaking_148 L105 x1 x5 0 h
def PX12_isWaking_147 (LP105 : Int32 → Int32 → Int32 → ph_H → Prop) (x1 : Int32) (x5 : Int32) (h : ph_H) : Prop := PX12_isWaking_148 LP105 x1 x5 0 h
set_option maxRecDepth 100000 in
set_option maxHeartbeats 4000000 in
theorem tX12_isWaking_147 {X : fj_X} {Y : fj_Y} {l0 : Launch} {ad : Nat → Nat} (C : FC X Y l0 cX12_isWaking 6 RX12 ({ frames := 0, cells := 0, slots := 0, locals := 0 } : Room) 0 0 (some .boolean)) (h : ph_H) (L105 : Int32 → Int32 → Int32 → ph_H → Int32) (LP105 : Int32 → Int32 → Int32 → ph_H → Prop) (hL105 : ∀ (x1 : Int32) (x4 : Int32) (x5 : Int32), LP105 x1 x4 x5 h → RETq X Y ad 50 SM h cX12_isWaking (L105 x1 x4 x5 h) → FJ X Y ad 50 SM h 105 [(0, .ref (ad 0)), (1, .int x1), (4, .int x4), (5, .int x5)] []) (x1 : Int32) (x5 : Int32) (hP : PX12_isWaking_147 LP105 x1 x5 h) (hR : RETq X Y ad 50 SM h cX12_isWaking (FX12_isWaking_147 L105 x1 x5 h)) : FJ X Y ad 50 SM h 147 [(0, .ref (ad 0)), (1, .int x1), (5, .int x5)] [] := by
  unfold PX12_isWaking_147 at hP
  unfold FX12_isWaking_147 at hR
  refine j_iconst (v := 0) C dX12_isWaking_147 (by decide) ?_
  exact j_vl (tX12_isWaking_148 C h L105 LP105 hL105 x1 x5 0 hP hR) ⟨rfl, rfl, rfl, trivial⟩
def FX12_isWaking_105  : Nat → Int32 → Int32 → Int32 → ph_H → Int32
  | 0, _, _, _, _ => 0
  | q + 1, x1, x4, x5, h => if x1 ≤ x5 then (x4) else (if x4 = 0 then (FX12_isWaking_147 (FX12_isWaking_105  q) x1 x5 h) else (if (h 34 (x5.toNatClampNeg)) = 3 then (if (h 35 (x5.toNatClampNeg)) = (h 35 (x1.toNatClampNeg)) then (FX12_isWaking_147 (FX12_isWaking_105  q) x1 x5 h) else (FX12_isWaking_143 (FX12_isWaking_105  q) x1 x5 h)) else (FX12_isWaking_143 (FX12_isWaking_105  q) x1 x5 h)))
def PX12_isWaking_105  : Nat → Int32 → Int32 → Int32 → ph_H → Prop
  | 0, _, _, _, _ => False
  | q + 1, x1, x4, x5, h => (x1 ≤ x5 → (bo x4 ∧ (True))) ∧ (¬ x1 ≤ x5 → ((x4 = 0 → (PX12_isWaking_147 (PX12_isWaking_105  q) x1 x5 h)) ∧ (¬ x4 = 0 → (vp_in x5 301 ∧ (((h 34 (x5.toNatClampNeg)) = 3 → (vp_in x5 301 ∧ (vp_in x1 301 ∧ (((h 35 (x5.toNatClampNeg)) = (h 35 (x1.toNatClampNeg)) → (PX12_isWaking_147 (PX12_isWaking_105  q) x1 x5 h)) ∧ (¬ (h 35 (x5.toNatClampNeg)) = (h 35 (x1.toNatClampNeg)) → (PX12_isWaking_143 (PX12_isWaking_105  q) x1 x5 h)))))) ∧ (¬ (h 34 (x5.toNatClampNeg)) = 3 → (PX12_isWaking_143 (PX12_isWaking_105  q) x1 x5 h)))))))
set_option maxRecDepth 100000 in
set_option maxHeartbeats 4000000 in
theorem tX12_isWaking_105 {X : fj_X} {Y : fj_Y} {l0 : Launch} {ad : Nat → Nat} (C : FC X Y l0 cX12_isWaking 6 RX12 ({ frames := 0, cells := 0, slots := 0, locals := 0 } : Room) 0 0 (some .boolean)) (h : ph_H) : ∀ (q : Nat) (x1 : Int32) (x4 : Int32) (x5 : Int32), PX12_isWaking_105  q x1 x4 x5 h → RETq X Y ad 50 SM h cX12_isWaking (FX12_isWaking_105  q x1 x4 x5 h) → FJ X Y ad 50 SM h 105 [(0, .ref (ad 0)), (1, .int x1), (4, .int x4), (5, .int x5)] [] := by
  intro q
  induction q with
  | zero =>
    intro x1 x4 x5 hP hR
    exact absurd hP id
  | succ q ih =>
    intro x1 x4 x5 hP hR
    unfold PX12_isWaking_105 at hP
    unfold FX12_isWaking_105 at hR
    refine j_iload C dX12_isWaking_105 rfl ?_
    refine j_iload_n C dX12_isWaking_107 rfl rfl ?_
    refine j_icmp_ge (tgt := 156) C dX12_isWaking_108 (by decide) (fun c0 => ?_) (fun c0 => ?_)
    · have hP := hP.1 c0
      rw [if_pos c0] at hR
      refine j_iload C dX12_isWaking_156 rfl ?_
      obtain ⟨p1, hP⟩ := hP
      exact hR p1 _ _ dX12_isWaking_158
    · have hP := hP.2 c0
      rw [if_neg c0] at hR
      refine j_iload C dX12_isWaking_111 rfl ?_
      refine j_if_eq (tgt := 147) C dX12_isWaking_113 (by decide) (fun c1 => ?_) (fun c1 => ?_)
      · have hP := hP.1 c1
        rw [if_pos c1] at hR
        exact j_vl (tX12_isWaking_147 C h (FX12_isWaking_105  q) (PX12_isWaking_105  q) (ih) x1 x5 hP hR) ⟨rfl, rfl, rfl, trivial⟩
      · have hP := hP.2 c1
        rw [if_neg c1] at hR
        refine j_aload_n C dX12_isWaking_116 rfl rfl ?_
        refine gM_111 C dX12_isWaking_117 ?_
        refine j_iload C dX12_isWaking_120 rfl ?_
        obtain ⟨p3, hP⟩ := hP
        refine j_iald (k := 34) (v := (h 34 (x5.toNatClampNeg))) C dX12_isWaking_122 (by decide) rfl p3 rfl ?_
        refine j_iconst (v := 3) C dX12_isWaking_123 (by decide) ?_
        refine j_icmp_ne (tgt := 143) C dX12_isWaking_124 (by decide) (fun c2 => ?_) (fun c2 => ?_)
        · have hP := hP.2 c2
          rw [if_neg c2] at hR
          exact j_vl (tX12_isWaking_143 C h (FX12_isWaking_105  q) (PX12_isWaking_105  q) (ih) x1 x5 hP hR) ⟨rfl, rfl, rfl, trivial⟩
        · have hP := hP.1 c2
          rw [if_pos c2] at hR
          refine j_aload_n C dX12_isWaking_127 rfl rfl ?_
          refine gM_114 C dX12_isWaking_128 ?_
          refine j_iload C dX12_isWaking_131 rfl ?_
          obtain ⟨p3, hP⟩ := hP
          refine j_iald (k := 35) (v := (h 35 (x5.toNatClampNeg))) C dX12_isWaking_133 (by decide) rfl p3 rfl ?_
          refine j_aload_n C dX12_isWaking_134 rfl rfl ?_
          refine gM_114 C dX12_isWaking_135 ?_
          refine j_iload_n C dX12_isWaking_138 rfl rfl ?_
          obtain ⟨p8, hP⟩ := hP
          refine j_iald (k := 35) (v := (h 35 (x1.toNatClampNeg))) C dX12_isWaking_139 (by decide) rfl p8 rfl ?_
          refine j_icmp_eq (tgt := 147) C dX12_isWaking_140 (by decide) (fun c3 => ?_) (fun c3 => ?_)
          · have hP := hP.1 c3
            rw [if_pos c3] at hR
            exact j_vl (tX12_isWaking_147 C h (FX12_isWaking_105  q) (PX12_isWaking_105  q) (ih) x1 x5 hP hR) ⟨rfl, rfl, rfl, trivial⟩
          · have hP := hP.2 c3
            rw [if_neg c3] at hR
            exact j_vl (tX12_isWaking_143 C h (FX12_isWaking_105  q) (PX12_isWaking_105  q) (ih) x1 x5 hP hR) ⟨rfl, rfl, rfl, trivial⟩
def FX12_isWaking_98  (x1 : Int32) (x3 : Int32) (s0 : Int32) (h : ph_H) : Int32 := FX12_isWaking_105 2000 x1 s0 (x3 + 1) h
def PX12_isWaking_98  (x1 : Int32) (x3 : Int32) (s0 : Int32) (h : ph_H) : Prop := PX12_isWaking_105 2000 x1 s0 (x3 + 1) h
set_option maxRecDepth 100000 in
set_option maxHeartbeats 4000000 in
theorem tX12_isWaking_98 {X : fj_X} {Y : fj_Y} {l0 : Launch} {ad : Nat → Nat} (C : FC X Y l0 cX12_isWaking 6 RX12 ({ frames := 0, cells := 0, slots := 0, locals := 0 } : Room) 0 0 (some .boolean)) (h : ph_H) (x1 : Int32) (x3 : Int32) (s0 : Int32) (hP : PX12_isWaking_98  x1 x3 s0 h) (hR : RETq X Y ad 50 SM h cX12_isWaking (FX12_isWaking_98  x1 x3 s0 h)) : FJ X Y ad 50 SM h 98 [(0, .ref (ad 0)), (1, .int x1), (3, .int x3)] [.int s0] := by
  unfold PX12_isWaking_98 at hP
  unfold FX12_isWaking_98 at hR
  refine j_istore C dX12_isWaking_98 (by decide) rfl ?_
  refine j_iload_n C dX12_isWaking_100 rfl rfl ?_
  refine j_iconst (v := 1) C dX12_isWaking_101 (by decide) ?_
  refine j_iadd C dX12_isWaking_102 ?_
  refine j_istore C dX12_isWaking_103 (by decide) rfl ?_
  exact j_vl (tX12_isWaking_105 C h 2000 x1 s0 (x3 + 1) hP hR) ⟨rfl, rfl, rfl, rfl, trivial⟩
def FX12_isWaking_53  : Nat → Int32 → Int32 → Int32 → Int32 → ph_H → Int32
  | 0, _, _, _, _, _ => 0
  | q + 1, x1, x2, x3, x4, h => if x2 ≤ x4 then (if x1 ≤ x3 then (FX12_isWaking_98  x1 x3 0 h) else (FX12_isWaking_98  x1 x3 1 h)) else (if (h 29 (x4.toNatClampNeg)) = (h 29 (x2.toNatClampNeg)) then (FX12_isWaking_81 (FX12_isWaking_53  q) x1 x2 x4 x4 h) else (FX12_isWaking_81 (FX12_isWaking_53  q) x1 x2 x4 x3 h))
def PX12_isWaking_53  : Nat → Int32 → Int32 → Int32 → Int32 → ph_H → Prop
  | 0, _, _, _, _, _ => False
  | q + 1, x1, x2, x3, x4, h => (x2 ≤ x4 → ((x1 ≤ x3 → (PX12_isWaking_98  x1 x3 0 h)) ∧ (¬ x1 ≤ x3 → (PX12_isWaking_98  x1 x3 1 h)))) ∧ (¬ x2 ≤ x4 → (vp_in x4 301 ∧ (vp_in x2 301 ∧ (((h 29 (x4.toNatClampNeg)) = (h 29 (x2.toNatClampNeg)) → (PX12_isWaking_81 (PX12_isWaking_53  q) x1 x2 x4 x4 h)) ∧ (¬ (h 29 (x4.toNatClampNeg)) = (h 29 (x2.toNatClampNeg)) → (PX12_isWaking_81 (PX12_isWaking_53  q) x1 x2 x4 x3 h))))))
set_option maxRecDepth 100000 in
set_option maxHeartbeats 4000000 in
theorem tX12_isWaking_53 {X : fj_X} {Y : fj_Y} {l0 : Launch} {ad : Nat → Nat} (C : FC X Y l0 cX12_isWaking 6 RX12 ({ frames := 0, cells := 0, slots := 0, locals := 0 } : Room) 0 0 (some .boolean)) (h : ph_H) : ∀ (q : Nat) (x1 : Int32) (x2 : Int32) (x3 : Int32) (x4 : Int32), PX12_isWaking_53  q x1 x2 x3 x4 h → RETq X Y ad 50 SM h cX12_isWaking (FX12_isWaking_53  q x1 x2 x3 x4 h) → FJ X Y ad 50 SM h 53 [(0, .ref (ad 0)), (1, .int x1), (2, .int x2), (3, .int x3), (4, .int x4)] [] := by
  intro q
  induction q with
  | zero =>
    intro x1 x2 x3 x4 hP hR
    exact absurd hP id
  | succ q ih =>
    intro x1 x2 x3 x4 hP hR
    unfold PX12_isWaking_53 at hP
    unfold FX12_isWaking_53 at hR
    refine j_iload C dX12_isWaking_53 rfl ?_
    refine j_iload_n C dX12_isWaking_55 rfl rfl ?_
    refine j_icmp_ge (tgt := 88) C dX12_isWaking_56 (by decide) (fun c0 => ?_) (fun c0 => ?_)
    · have hP := hP.1 c0
      rw [if_pos c0] at hR
      refine j_iload_n C dX12_isWaking_88 rfl rfl ?_
      refine j_iload_n C dX12_isWaking_89 rfl rfl ?_
      refine j_icmp_ge (tgt := 97) C dX12_isWaking_90 (by decide) (fun c1 => ?_) (fun c1 => ?_)
      · have hP := hP.1 c1
        rw [if_pos c1] at hR
        refine j_iconst (v := 0) C dX12_isWaking_97 (by decide) ?_
        exact j_vl (tX12_isWaking_98 C h x1 x3 0 hP hR) ⟨rfl, rfl, rfl, trivial⟩
      · have hP := hP.2 c1
        rw [if_neg c1] at hR
        refine j_iconst (v := 1) C dX12_isWaking_93 (by decide) ?_
        refine j_goto (tgt := 98) C dX12_isWaking_94 (by decide) ?_
        exact j_vl (tX12_isWaking_98 C h x1 x3 1 hP hR) ⟨rfl, rfl, rfl, trivial⟩
    · have hP := hP.2 c0
      rw [if_neg c0] at hR
      refine j_aload_n C dX12_isWaking_59 rfl rfl ?_
      refine gM_96 C dX12_isWaking_60 ?_
      refine j_iload C dX12_isWaking_63 rfl ?_
      obtain ⟨p3, hP⟩ := hP
      refine j_iald (k := 29) (v := (h 29 (x4.toNatClampNeg))) C dX12_isWaking_65 (by decide) rfl p3 rfl ?_
      refine j_aload_n C dX12_isWaking_66 rfl rfl ?_
      refine gM_96 C dX12_isWaking_67 ?_
      refine j_iload_n C dX12_isWaking_70 rfl rfl ?_
      obtain ⟨p8, hP⟩ := hP
      refine j_iald (k := 29) (v := (h 29 (x2.toNatClampNeg))) C dX12_isWaking_71 (by decide) rfl p8 rfl ?_
      refine j_icmp_ne (tgt := 80) C dX12_isWaking_72 (by decide) (fun c1 => ?_) (fun c1 => ?_)
      · have hP := hP.2 c1
        rw [if_neg c1] at hR
        refine j_iload_n C dX12_isWaking_80 rfl rfl ?_
        exact j_vl (tX12_isWaking_81 C h (FX12_isWaking_53  q) (PX12_isWaking_53  q) (ih) x1 x2 x4 x3 hP hR) ⟨rfl, rfl, rfl, rfl, trivial⟩
      · have hP := hP.1 c1
        rw [if_pos c1] at hR
        refine j_iload C dX12_isWaking_75 rfl ?_
        refine j_goto (tgt := 81) C dX12_isWaking_77 (by decide) ?_
        exact j_vl (tX12_isWaking_81 C h (FX12_isWaking_53  q) (PX12_isWaking_53  q) (ih) x1 x2 x4 x4 hP hR) ⟨rfl, rfl, rfl, rfl, trivial⟩
def FX12_isWaking (a0 : Int32) (a1 : Int32) (h : ph_H) : Int32 := if (h 34 (a0.toNatClampNeg)) = 3 then (if (h 31 (a1.toNatClampNeg)) = 14 then (if (h 34 (a1.toNatClampNeg)) = 1 then (if (h 35 (a0.toNatClampNeg)) = (h 35 (a1.toNatClampNeg)) then (FX12_isWaking_53 2000 a0 a1 0 1 h) else (0)) else (0)) else (0)) else (0)
def PX12_isWaking (a0 : Int32) (a1 : Int32) (h : ph_H) : Prop := vp_in a0 301 ∧ (((h 34 (a0.toNatClampNeg)) = 3 → (vp_in a1 301 ∧ (((h 31 (a1.toNatClampNeg)) = 14 → (vp_in a1 301 ∧ (((h 34 (a1.toNatClampNeg)) = 1 → (vp_in a0 301 ∧ (vp_in a1 301 ∧ (((h 35 (a0.toNatClampNeg)) = (h 35 (a1.toNatClampNeg)) → (PX12_isWaking_53 2000 a0 a1 0 1 h)) ∧ (¬ (h 35 (a0.toNatClampNeg)) = (h 35 (a1.toNatClampNeg)) → (True)))))) ∧ (¬ (h 34 (a1.toNatClampNeg)) = 1 → (True))))) ∧ (¬ (h 31 (a1.toNatClampNeg)) = 14 → (True))))) ∧ (¬ (h 34 (a0.toNatClampNeg)) = 3 → (True)))
set_option maxRecDepth 100000 in
set_option maxHeartbeats 4000000 in
theorem tX12_isWaking {X : fj_X} {Y : fj_Y} {l0 : Launch} {ad : Nat → Nat} (C : FC X Y l0 cX12_isWaking 6 RX12 ({ frames := 0, cells := 0, slots := 0, locals := 0 } : Room) 0 0 (some .boolean)) (a0 : Int32) (a1 : Int32) (h : ph_H) (hP : PX12_isWaking a0 a1 h) (hR : RETq X Y ad 50 SM h cX12_isWaking (FX12_isWaking a0 a1 h)) : FJ X Y ad 50 SM h 0 [(0, .ref (ad 0)), (1, .int a0), (2, .int a1)] [] := by
  unfold PX12_isWaking at hP
  unfold FX12_isWaking at hR
  refine j_aload_n C dX12_isWaking_0 rfl rfl ?_
  refine gM_111 C dX12_isWaking_1 ?_
  refine j_iload_n C dX12_isWaking_4 rfl rfl ?_
  obtain ⟨p3, hP⟩ := hP
  refine j_iald (k := 34) (v := (h 34 (a0.toNatClampNeg))) C dX12_isWaking_5 (by decide) rfl p3 rfl ?_
  refine j_iconst (v := 3) C dX12_isWaking_6 (by decide) ?_
  refine j_icmp_ne (tgt := 46) C dX12_isWaking_7 (by decide) (fun c0 => ?_) (fun c0 => ?_)
  · have hP := hP.2 c0
    rw [if_neg c0] at hR
    refine j_iconst (v := 0) C dX12_isWaking_46 (by decide) ?_
    exact hR bo_0 _ _ dX12_isWaking_47
  · have hP := hP.1 c0
    rw [if_pos c0] at hR
    refine j_aload_n C dX12_isWaking_10 rfl rfl ?_
    refine gM_102 C dX12_isWaking_11 ?_
    refine j_iload_n C dX12_isWaking_14 rfl rfl ?_
    obtain ⟨p3, hP⟩ := hP
    refine j_iald (k := 31) (v := (h 31 (a1.toNatClampNeg))) C dX12_isWaking_15 (by decide) rfl p3 rfl ?_
    refine j_bipush (v := 14) C dX12_isWaking_16 (by decide) ?_
    refine j_icmp_ne (tgt := 46) C dX12_isWaking_18 (by decide) (fun c1 => ?_) (fun c1 => ?_)
    · have hP := hP.2 c1
      rw [if_neg c1] at hR
      refine j_iconst (v := 0) C dX12_isWaking_46 (by decide) ?_
      exact hR bo_0 _ _ dX12_isWaking_47
    · have hP := hP.1 c1
      rw [if_pos c1] at hR
      refine j_aload_n C dX12_isWaking_21 rfl rfl ?_
      refine gM_111 C dX12_isWaking_22 ?_
      refine j_iload_n C dX12_isWaking_25 rfl rfl ?_
      obtain ⟨p3, hP⟩ := hP
      refine j_iald (k := 34) (v := (h 34 (a1.toNatClampNeg))) C dX12_isWaking_26 (by decide) rfl p3 rfl ?_
      refine j_iconst (v := 1) C dX12_isWaking_27 (by decide) ?_
      refine j_icmp_ne (tgt := 46) C dX12_isWaking_28 (by decide) (fun c2 => ?_) (fun c2 => ?_)
      · have hP := hP.2 c2
        rw [if_neg c2] at hR
        refine j_iconst (v := 0) C dX12_isWaking_46 (by decide) ?_
        exact hR bo_0 _ _ dX12_isWaking_47
      · have hP := hP.1 c2
        rw [if_pos c2] at hR
        refine j_aload_n C dX12_isWaking_31 rfl rfl ?_
        refine gM_114 C dX12_isWaking_32 ?_
        refine j_iload_n C dX12_isWaking_35 rfl rfl ?_
        obtain ⟨p3, hP⟩ := hP
        refine j_iald (k := 35) (v := (h 35 (a0.toNatClampNeg))) C dX12_isWaking_36 (by decide) rfl p3 rfl ?_
        refine j_aload_n C dX12_isWaking_37 rfl rfl ?_
        refine gM_114 C dX12_isWaking_38 ?_
        refine j_iload_n C dX12_isWaking_41 rfl rfl ?_
        obtain ⟨p8, hP⟩ := hP
        refine j_iald (k := 35) (v := (h 35 (a1.toNatClampNeg))) C dX12_isWaking_42 (by decide) rfl p8 rfl ?_
        refine j_icmp_eq (tgt := 48) C dX12_isWaking_43 (by decide) (fun c3 => ?_) (fun c3 => ?_)
        · have hP := hP.1 c3
          rw [if_pos c3] at hR
          refine j_iconst (v := 0) C dX12_isWaking_48 (by decide) ?_
          refine j_istore_n C dX12_isWaking_49 rfl (by decide) rfl ?_
          refine j_iconst (v := 1) C dX12_isWaking_50 (by decide) ?_
          refine j_istore C dX12_isWaking_51 (by decide) rfl ?_
          exact j_vl (tX12_isWaking_53 C h 2000 a0 a1 0 1 hP hR) ⟨rfl, rfl, rfl, rfl, rfl, trivial⟩
        · have hP := hP.2 c3
          rw [if_neg c3] at hR
          refine j_iconst (v := 0) C dX12_isWaking_46 (by decide) ?_
          exact hR bo_0 _ _ dX12_isWaking_47
theorem MX12_isWaking {l0 : Launch} {Y : fj_Y} {ad : Nat → Nat} (a0 : Int32) (a1 : Int32) (h : ph_H) (hP : PX12_isWaking a0 a1 h) : MI l0 yX12_isWaking cX12_isWaking 6 (some .boolean) ({ frames := 0, cells := 0, slots := 0, locals := 0 } : Room) Y ad 50 SM h [.ref (ad 0), .int a0, .int a1] (fun r S' h' => S' = SM ∧ h' = h ∧ r = FX12_isWaking a0 a1 h ∧ bo r) := met_i (by decide) (Nat.le_of_ble_eq_true rfl) (fun _ _ _ q => bo_n q.2.2.2) (fun X C K => j_vl (tX12_isWaking C a0 a1 h hP (fun b pc lv hd => K _ _ _ ⟨rfl, rfl, rfl, b⟩ pc lv hd)) ⟨rfl, rfl, rfl, trivial⟩)

-- X12_isDirect
def FX12_isDirect_108  (h : ph_H) : Int32 := 1
def PX12_isDirect_108  (h : ph_H) : Prop := True
set_option maxRecDepth 100000 in
set_option maxHeartbeats 4000000 in
theorem tX12_isDirect_108 {X : fj_X} {Y : fj_Y} {l0 : Launch} {ad : Nat → Nat} (C : FC X Y l0 cX12_isDirect 5 RX12 ({ frames := 1, cells := 0, slots := 0, locals := 25 } : Room) 0 0 (some .boolean)) (h : ph_H)  (hP : PX12_isDirect_108  h) (hR : RETq X Y ad 50 SM h cX12_isDirect (FX12_isDirect_108  h)) : FJ X Y ad 50 SM h 108 [] [] := by
  unfold PX12_isDirect_108 at hP
  unfold FX12_isDirect_108 at hR
  refine j_iconst (v := 1) C dX12_isDirect_108 (by decide) ?_
  refine j_goto (tgt := 113) C dX12_isDirect_109 (by decide) ?_
  exact hR bo_1 _ _ dX12_isDirect_113
def FX12_isDirect_88  (x1 : Int32) (x2 : Int32) (x3 : Int32) (s0 : Int32) (h : ph_H) : Int32 := if x3 = 0 then (if s0 = 0 then (if (FX12_isWaking x1 x2 h) = 0 then (0) else (FX12_isDirect_108  h)) else (FX12_isDirect_108  h)) else (FX12_isDirect_108  h)
def PX12_isDirect_88  (x1 : Int32) (x2 : Int32) (x3 : Int32) (s0 : Int32) (h : ph_H) : Prop := (x3 = 0 → ((s0 = 0 → ((PX12_isWaking x1 x2 h) ∧ (((FX12_isWaking x1 x2 h) = 0 → (True)) ∧ (¬ (FX12_isWaking x1 x2 h) = 0 → (PX12_isDirect_108  h))))) ∧ (¬ s0 = 0 → (PX12_isDirect_108  h)))) ∧ (¬ x3 = 0 → (PX12_isDirect_108  h))
set_option maxRecDepth 100000 in
set_option maxHeartbeats 4000000 in
theorem tX12_isDirect_88 {X : fj_X} {Y : fj_Y} {l0 : Launch} {ad : Nat → Nat} (C : FC X Y l0 cX12_isDirect 5 RX12 ({ frames := 1, cells := 0, slots := 0, locals := 25 } : Room) 0 0 (some .boolean)) (h : ph_H) (x1 : Int32) (x2 : Int32) (x3 : Int32) (s0 : Int32) (hP : PX12_isDirect_88  x1 x2 x3 s0 h) (hR : RETq X Y ad 50 SM h cX12_isDirect (FX12_isDirect_88  x1 x2 x3 s0 h)) : FJ X Y ad 50 SM h 88 [(0, .ref (ad 0)), (1, .int x1), (2, .int x2), (3, .int x3)] [.int s0] := by
  unfold PX12_isDirect_88 at hP
  unfold FX12_isDirect_88 at hR
  refine j_istore C dX12_isDirect_88 (by decide) rfl ?_
  refine j_iload_n C dX12_isDirect_90 rfl rfl ?_
  refine j_if_ne (tgt := 108) C dX12_isDirect_91 (by decide) (fun c0 => ?_) (fun c0 => ?_)
  · have hP := hP.2 c0
    rw [if_neg c0] at hR
    exact j_vl (tX12_isDirect_108 C h  hP hR) trivial
  · have hP := hP.1 c0
    rw [if_pos c0] at hR
    refine j_iload C dX12_isDirect_94 rfl ?_
    refine j_if_ne (tgt := 108) C dX12_isDirect_96 (by decide) (fun c1 => ?_) (fun c1 => ?_)
    · have hP := hP.2 c1
      rw [if_neg c1] at hR
      exact j_vl (tX12_isDirect_108 C h  hP hR) trivial
    · have hP := hP.1 c1
      rw [if_pos c1] at hR
      refine j_aload_n C dX12_isDirect_99 rfl rfl ?_
      refine j_iload_n C dX12_isDirect_100 rfl rfl ?_
      refine j_iload_n C dX12_isDirect_101 rfl rfl ?_
      obtain ⟨p3, hP⟩ := hP
      refine j_callV C (MX12_isWaking x1 x2 h p3) dX12_isDirect_102 (CKX12_isWaking (by decide)) ⟨rfl, rfl⟩ lk_RX12_327 in_X12_isWaking se_X12_isWaking (by decide) rfl rfl rfl (Nat.le_of_ble_eq_true rfl) ?_
      intro r S' h' hq
      obtain ⟨rfl, hh, rfl, hb5⟩ := hq
      rw [hh]
      refine j_if_eq (tgt := 112) C dX12_isDirect_105 (by decide) (fun c2 => ?_) (fun c2 => ?_)
      · have hP := hP.1 c2
        rw [if_pos c2] at hR
        refine j_iconst (v := 0) C dX12_isDirect_112 (by decide) ?_
        exact hR bo_0 _ _ dX12_isDirect_113
      · have hP := hP.2 c2
        rw [if_neg c2] at hR
        exact j_vl (tX12_isDirect_108 C h  hP hR) trivial
def FX12_isDirect_87  (x1 : Int32) (x2 : Int32) (x3 : Int32) (h : ph_H) : Int32 := FX12_isDirect_88  x1 x2 x3 0 h
def PX12_isDirect_87  (x1 : Int32) (x2 : Int32) (x3 : Int32) (h : ph_H) : Prop := PX12_isDirect_88  x1 x2 x3 0 h
set_option maxRecDepth 100000 in
set_option maxHeartbeats 4000000 in
theorem tX12_isDirect_87 {X : fj_X} {Y : fj_Y} {l0 : Launch} {ad : Nat → Nat} (C : FC X Y l0 cX12_isDirect 5 RX12 ({ frames := 1, cells := 0, slots := 0, locals := 25 } : Room) 0 0 (some .boolean)) (h : ph_H) (x1 : Int32) (x2 : Int32) (x3 : Int32) (hP : PX12_isDirect_87  x1 x2 x3 h) (hR : RETq X Y ad 50 SM h cX12_isDirect (FX12_isDirect_87  x1 x2 x3 h)) : FJ X Y ad 50 SM h 87 [(0, .ref (ad 0)), (1, .int x1), (2, .int x2), (3, .int x3)] [] := by
  unfold PX12_isDirect_87 at hP
  unfold FX12_isDirect_87 at hR
  refine j_iconst (v := 0) C dX12_isDirect_87 (by decide) ?_
  exact j_vl (tX12_isDirect_88 C h x1 x2 x3 0 hP hR) ⟨rfl, rfl, rfl, rfl, trivial⟩
def FX12_isDirect_57  (x1 : Int32) (x2 : Int32) (s0 : Int32) (h : ph_H) : Int32 := if (h 34 (x1.toNatClampNeg)) = 4 then (if (h 35 (x1.toNatClampNeg)) = (h 29 (x2.toNatClampNeg)) then (FX12_isDirect_88  x1 x2 s0 1 h) else (FX12_isDirect_87  x1 x2 s0 h)) else (FX12_isDirect_87  x1 x2 s0 h)
def PX12_isDirect_57  (x1 : Int32) (x2 : Int32) (s0 : Int32) (h : ph_H) : Prop := vp_in x1 301 ∧ (((h 34 (x1.toNatClampNeg)) = 4 → (vp_in x1 301 ∧ (vp_in x2 301 ∧ (((h 35 (x1.toNatClampNeg)) = (h 29 (x2.toNatClampNeg)) → (PX12_isDirect_88  x1 x2 s0 1 h)) ∧ (¬ (h 35 (x1.toNatClampNeg)) = (h 29 (x2.toNatClampNeg)) → (PX12_isDirect_87  x1 x2 s0 h)))))) ∧ (¬ (h 34 (x1.toNatClampNeg)) = 4 → (PX12_isDirect_87  x1 x2 s0 h)))
set_option maxRecDepth 100000 in
set_option maxHeartbeats 4000000 in
theorem tX12_isDirect_57 {X : fj_X} {Y : fj_Y} {l0 : Launch} {ad : Nat → Nat} (C : FC X Y l0 cX12_isDirect 5 RX12 ({ frames := 1, cells := 0, slots := 0, locals := 25 } : Room) 0 0 (some .boolean)) (h : ph_H) (x1 : Int32) (x2 : Int32) (s0 : Int32) (hP : PX12_isDirect_57  x1 x2 s0 h) (hR : RETq X Y ad 50 SM h cX12_isDirect (FX12_isDirect_57  x1 x2 s0 h)) : FJ X Y ad 50 SM h 57 [(0, .ref (ad 0)), (1, .int x1), (2, .int x2)] [.int s0] := by
  unfold PX12_isDirect_57 at hP
  unfold FX12_isDirect_57 at hR
  refine j_istore_n C dX12_isDirect_57 rfl (by decide) rfl ?_
  refine j_aload_n C dX12_isDirect_58 rfl rfl ?_
  refine gM_111 C dX12_isDirect_59 ?_
  refine j_iload_n C dX12_isDirect_62 rfl rfl ?_
  obtain ⟨p4, hP⟩ := hP
  refine j_iald (k := 34) (v := (h 34 (x1.toNatClampNeg))) C dX12_isDirect_63 (by decide) rfl p4 rfl ?_
  refine j_iconst (v := 4) C dX12_isDirect_64 (by decide) ?_
  refine j_icmp_ne (tgt := 87) C dX12_isDirect_65 (by decide) (fun c0 => ?_) (fun c0 => ?_)
  · have hP := hP.2 c0
    rw [if_neg c0] at hR
    exact j_vl (tX12_isDirect_87 C h x1 x2 s0 hP hR) ⟨rfl, rfl, rfl, rfl, trivial⟩
  · have hP := hP.1 c0
    rw [if_pos c0] at hR
    refine j_aload_n C dX12_isDirect_68 rfl rfl ?_
    refine gM_114 C dX12_isDirect_69 ?_
    refine j_iload_n C dX12_isDirect_72 rfl rfl ?_
    obtain ⟨p3, hP⟩ := hP
    refine j_iald (k := 35) (v := (h 35 (x1.toNatClampNeg))) C dX12_isDirect_73 (by decide) rfl p3 rfl ?_
    refine j_aload_n C dX12_isDirect_74 rfl rfl ?_
    refine gM_96 C dX12_isDirect_75 ?_
    refine j_iload_n C dX12_isDirect_78 rfl rfl ?_
    obtain ⟨p8, hP⟩ := hP
    refine j_iald (k := 29) (v := (h 29 (x2.toNatClampNeg))) C dX12_isDirect_79 (by decide) rfl p8 rfl ?_
    refine j_icmp_ne (tgt := 87) C dX12_isDirect_80 (by decide) (fun c1 => ?_) (fun c1 => ?_)
    · have hP := hP.2 c1
      rw [if_neg c1] at hR
      exact j_vl (tX12_isDirect_87 C h x1 x2 s0 hP hR) ⟨rfl, rfl, rfl, rfl, trivial⟩
    · have hP := hP.1 c1
      rw [if_pos c1] at hR
      refine j_iconst (v := 1) C dX12_isDirect_83 (by decide) ?_
      refine j_goto (tgt := 88) C dX12_isDirect_84 (by decide) ?_
      exact j_vl (tX12_isDirect_88 C h x1 x2 s0 1 hP hR) ⟨rfl, rfl, rfl, rfl, trivial⟩
def FX12_isDirect_56  (x1 : Int32) (x2 : Int32) (h : ph_H) : Int32 := FX12_isDirect_57  x1 x2 0 h
def PX12_isDirect_56  (x1 : Int32) (x2 : Int32) (h : ph_H) : Prop := PX12_isDirect_57  x1 x2 0 h
set_option maxRecDepth 100000 in
set_option maxHeartbeats 4000000 in
theorem tX12_isDirect_56 {X : fj_X} {Y : fj_Y} {l0 : Launch} {ad : Nat → Nat} (C : FC X Y l0 cX12_isDirect 5 RX12 ({ frames := 1, cells := 0, slots := 0, locals := 25 } : Room) 0 0 (some .boolean)) (h : ph_H) (x1 : Int32) (x2 : Int32) (hP : PX12_isDirect_56  x1 x2 h) (hR : RETq X Y ad 50 SM h cX12_isDirect (FX12_isDirect_56  x1 x2 h)) : FJ X Y ad 50 SM h 56 [(0, .ref (ad 0)), (1, .int x1), (2, .int x2)] [] := by
  unfold PX12_isDirect_56 at hP
  unfold FX12_isDirect_56 at hR
  refine j_iconst (v := 0) C dX12_isDirect_56 (by decide) ?_
  exact j_vl (tX12_isDirect_57 C h x1 x2 0 hP hR) ⟨rfl, rfl, rfl, trivial⟩
def FX12_isDirect (a0 : Int32) (a1 : Int32) (h : ph_H) : Int32 := if (h 29 (a0.toNatClampNeg)) = (h 29 (a1.toNatClampNeg)) then (1) else (if (h 34 (a0.toNatClampNeg)) = 2 then (if (h 34 (a1.toNatClampNeg)) = 1 then (if (h 35 (a0.toNatClampNeg)) = (h 35 (a1.toNatClampNeg)) then (FX12_isDirect_57  a0 a1 1 h) else (FX12_isDirect_56  a0 a1 h)) else (FX12_isDirect_56  a0 a1 h)) else (FX12_isDirect_56  a0 a1 h))
def PX12_isDirect (a0 : Int32) (a1 : Int32) (h : ph_H) : Prop := vp_in a0 301 ∧ (vp_in a1 301 ∧ (((h 29 (a0.toNatClampNeg)) = (h 29 (a1.toNatClampNeg)) → (True)) ∧ (¬ (h 29 (a0.toNatClampNeg)) = (h 29 (a1.toNatClampNeg)) → (vp_in a0 301 ∧ (((h 34 (a0.toNatClampNeg)) = 2 → (vp_in a1 301 ∧ (((h 34 (a1.toNatClampNeg)) = 1 → (vp_in a0 301 ∧ (vp_in a1 301 ∧ (((h 35 (a0.toNatClampNeg)) = (h 35 (a1.toNatClampNeg)) → (PX12_isDirect_57  a0 a1 1 h)) ∧ (¬ (h 35 (a0.toNatClampNeg)) = (h 35 (a1.toNatClampNeg)) → (PX12_isDirect_56  a0 a1 h)))))) ∧ (¬ (h 34 (a1.toNatClampNeg)) = 1 → (PX12_isDirect_56  a0 a1 h))))) ∧ (¬ (h 34 (a0.toNatClampNeg)) = 2 → (PX12_isDirect_56  a0 a1 h)))))))
set_option maxRecDepth 100000 in
set_option maxHeartbeats 4000000 in
theorem tX12_isDirect {X : fj_X} {Y : fj_Y} {l0 : Launch} {ad : Nat → Nat} (C : FC X Y l0 cX12_isDirect 5 RX12 ({ frames := 1, cells := 0, slots := 0, locals := 25 } : Room) 0 0 (some .boolean)) (a0 : Int32) (a1 : Int32) (h : ph_H) (hP : PX12_isDirect a0 a1 h) (hR : RETq X Y ad 50 SM h cX12_isDirect (FX12_isDirect a0 a1 h)) : FJ X Y ad 50 SM h 0 [(0, .ref (ad 0)), (1, .int a0), (2, .int a1)] [] := by
  unfold PX12_isDirect at hP
  unfold FX12_isDirect at hR
  refine j_aload_n C dX12_isDirect_0 rfl rfl ?_
  refine gM_96 C dX12_isDirect_1 ?_
  refine j_iload_n C dX12_isDirect_4 rfl rfl ?_
  obtain ⟨p3, hP⟩ := hP
  refine j_iald (k := 29) (v := (h 29 (a0.toNatClampNeg))) C dX12_isDirect_5 (by decide) rfl p3 rfl ?_
  refine j_aload_n C dX12_isDirect_6 rfl rfl ?_
  refine gM_96 C dX12_isDirect_7 ?_
  refine j_iload_n C dX12_isDirect_10 rfl rfl ?_
  obtain ⟨p8, hP⟩ := hP
  refine j_iald (k := 29) (v := (h 29 (a1.toNatClampNeg))) C dX12_isDirect_11 (by decide) rfl p8 rfl ?_
  refine j_icmp_ne (tgt := 17) C dX12_isDirect_12 (by decide) (fun c0 => ?_) (fun c0 => ?_)
  · have hP := hP.2 c0
    rw [if_neg c0] at hR
    refine j_aload_n C dX12_isDirect_17 rfl rfl ?_
    refine gM_111 C dX12_isDirect_18 ?_
    refine j_iload_n C dX12_isDirect_21 rfl rfl ?_
    obtain ⟨p3, hP⟩ := hP
    refine j_iald (k := 34) (v := (h 34 (a0.toNatClampNeg))) C dX12_isDirect_22 (by decide) rfl p3 rfl ?_
    refine j_iconst (v := 2) C dX12_isDirect_23 (by decide) ?_
    refine j_icmp_ne (tgt := 56) C dX12_isDirect_24 (by decide) (fun c1 => ?_) (fun c1 => ?_)
    · have hP := hP.2 c1
      rw [if_neg c1] at hR
      exact j_vl (tX12_isDirect_56 C h a0 a1 hP hR) ⟨rfl, rfl, rfl, trivial⟩
    · have hP := hP.1 c1
      rw [if_pos c1] at hR
      refine j_aload_n C dX12_isDirect_27 rfl rfl ?_
      refine gM_111 C dX12_isDirect_28 ?_
      refine j_iload_n C dX12_isDirect_31 rfl rfl ?_
      obtain ⟨p3, hP⟩ := hP
      refine j_iald (k := 34) (v := (h 34 (a1.toNatClampNeg))) C dX12_isDirect_32 (by decide) rfl p3 rfl ?_
      refine j_iconst (v := 1) C dX12_isDirect_33 (by decide) ?_
      refine j_icmp_ne (tgt := 56) C dX12_isDirect_34 (by decide) (fun c2 => ?_) (fun c2 => ?_)
      · have hP := hP.2 c2
        rw [if_neg c2] at hR
        exact j_vl (tX12_isDirect_56 C h a0 a1 hP hR) ⟨rfl, rfl, rfl, trivial⟩
      · have hP := hP.1 c2
        rw [if_pos c2] at hR
        refine j_aload_n C dX12_isDirect_37 rfl rfl ?_
        refine gM_114 C dX12_isDirect_38 ?_
        refine j_iload_n C dX12_isDirect_41 rfl rfl ?_
        obtain ⟨p3, hP⟩ := hP
        refine j_iald (k := 35) (v := (h 35 (a0.toNatClampNeg))) C dX12_isDirect_42 (by decide) rfl p3 rfl ?_
        refine j_aload_n C dX12_isDirect_43 rfl rfl ?_
        refine gM_114 C dX12_isDirect_44 ?_
        refine j_iload_n C dX12_isDirect_47 rfl rfl ?_
        obtain ⟨p8, hP⟩ := hP
        refine j_iald (k := 35) (v := (h 35 (a1.toNatClampNeg))) C dX12_isDirect_48 (by decide) rfl p8 rfl ?_
        refine j_icmp_ne (tgt := 56) C dX12_isDirect_49 (by decide) (fun c3 => ?_) (fun c3 => ?_)
        · have hP := hP.2 c3
          rw [if_neg c3] at hR
          exact j_vl (tX12_isDirect_56 C h a0 a1 hP hR) ⟨rfl, rfl, rfl, trivial⟩
        · have hP := hP.1 c3
          rw [if_pos c3] at hR
          refine j_iconst (v := 1) C dX12_isDirect_52 (by decide) ?_
          refine j_goto (tgt := 57) C dX12_isDirect_53 (by decide) ?_
          exact j_vl (tX12_isDirect_57 C h a0 a1 1 hP hR) ⟨rfl, rfl, rfl, trivial⟩
  · have hP := hP.1 c0
    rw [if_pos c0] at hR
    refine j_iconst (v := 1) C dX12_isDirect_15 (by decide) ?_
    exact hR bo_1 _ _ dX12_isDirect_16
theorem MX12_isDirect {l0 : Launch} {Y : fj_Y} {ad : Nat → Nat} (a0 : Int32) (a1 : Int32) (h : ph_H) (hP : PX12_isDirect a0 a1 h) : MI l0 yX12_isDirect cX12_isDirect 5 (some .boolean) ({ frames := 1, cells := 0, slots := 0, locals := 25 } : Room) Y ad 50 SM h [.ref (ad 0), .int a0, .int a1] (fun r S' h' => S' = SM ∧ h' = h ∧ r = FX12_isDirect a0 a1 h ∧ bo r) := met_i (by decide) (Nat.le_of_ble_eq_true rfl) (fun _ _ _ q => bo_n q.2.2.2) (fun X C K => j_vl (tX12_isDirect C a0 a1 h hP (fun b pc lv hd => K _ _ _ ⟨rfl, rfl, rfl, b⟩ pc lv hd)) ⟨rfl, rfl, rfl, trivial⟩)

-- X12_findAhead
def FX12_findAhead_147 (L15 : Int32 → ph_H → ph_H) (L53 : Int32 → Int32 → ph_H → ph_H) (L96 : Int32 → Int32 → Int32 → ph_H → ph_H) (x1 : Int32) (x2 : Int32) (x3 : Int32) (s0 : Int32) (s1 : Int32) (h : ph_H) : ph_H := L96 x1 x2 (x3 + 1) (hs h 39 s1.toNatClampNeg (vp_nar .boolean s0))
def PX12_findAhead_147 (LP15 : Int32 → ph_H → Prop) (LP53 : Int32 → Int32 → ph_H → Prop) (LP96 : Int32 → Int32 → Int32 → ph_H → Prop) (x1 : Int32) (x2 : Int32) (x3 : Int32) (s0 : Int32) (s1 : Int32) (h : ph_H) : Prop := vp_in s1 90601 ∧ (LP96 x1 x2 (x3 + 1) (hs h 39 s1.toNatClampNeg (vp_nar .boolean s0)))
set_option maxRecDepth 100000 in
set_option maxHeartbeats 4000000 in
theorem tX12_findAhead_147 {X : fj_X} {Y : fj_Y} {l0 : Launch} {ad : Nat → Nat} (C : FC X Y l0 cX12_findAhead 4 RX12 ({ frames := 2, cells := 0, slots := 0, locals := 49 } : Room) 0 0 none) (L15 : Int32 → ph_H → ph_H) (LP15 : Int32 → ph_H → Prop) (hL15 : ∀ (x1 : Int32) (h : ph_H), LP15 x1 h → RETv X Y ad 50 SM cX12_findAhead (L15 x1 h) → FJ X Y ad 50 SM h 15 [(0, .ref (ad 0)), (1, .int x1)] []) (L53 : Int32 → Int32 → ph_H → ph_H) (LP53 : Int32 → Int32 → ph_H → Prop) (hL53 : ∀ (x1 : Int32) (x2 : Int32) (h : ph_H), LP53 x1 x2 h → RETv X Y ad 50 SM cX12_findAhead (L53 x1 x2 h) → FJ X Y ad 50 SM h 53 [(0, .ref (ad 0)), (1, .int x1), (2, .int x2)] []) (L96 : Int32 → Int32 → Int32 → ph_H → ph_H) (LP96 : Int32 → Int32 → Int32 → ph_H → Prop) (hL96 : ∀ (x1 : Int32) (x2 : Int32) (x3 : Int32) (h : ph_H), LP96 x1 x2 x3 h → RETv X Y ad 50 SM cX12_findAhead (L96 x1 x2 x3 h) → FJ X Y ad 50 SM h 96 [(0, .ref (ad 0)), (1, .int x1), (2, .int x2), (3, .int x3)] []) (x1 : Int32) (x2 : Int32) (x3 : Int32) (s0 : Int32) (s1 : Int32) (h : ph_H) (hP : PX12_findAhead_147 LP15 LP53 LP96 x1 x2 x3 s0 s1 h) (hR : RETv X Y ad 50 SM cX12_findAhead (FX12_findAhead_147 L15 L53 L96 x1 x2 x3 s0 s1 h)) : FJ X Y ad 50 SM h 147 [(0, .ref (ad 0)), (1, .int x1), (2, .int x2), (3, .int x3)] [.int s0, .int s1, .ref (ad 39)] := by
  unfold PX12_findAhead_147 at hP
  unfold FX12_findAhead_147 at hR
  obtain ⟨p0, hP⟩ := hP
  refine j_zast (k := 39) C dX12_findAhead_147 (by decide) rfl p0 ?_
  refine j_iinc (v := (x3 + 1)) C dX12_findAhead_148 rfl rfl (by decide) rfl ?_
  refine j_goto (tgt := 96) C dX12_findAhead_151 (by decide) ?_
  exact j_vl (hL96 x1 x2 (x3 + 1) (hs h 39 s1.toNatClampNeg (vp_nar .boolean s0)) hP hR) ⟨rfl, rfl, rfl, rfl, trivial⟩
def FX12_findAhead_142 (L15 : Int32 → ph_H → ph_H) (L53 : Int32 → Int32 → ph_H → ph_H) (L96 : Int32 → Int32 → Int32 → ph_H → ph_H) (x1 : Int32) (x2 : Int32) (x3 : Int32) (s0 : Int32) (h : ph_H) : ph_H := FX12_findAhead_147 L15 L53 L96 x1 x2 x3 1 s0 h
def PX12_findAhead_142 (LP15 : Int32 → ph_H → Prop) (LP53 : Int32 → Int32 → ph_H → Prop) (LP96 : Int32 → Int32 → Int32 → ph_H → Prop) (x1 : Int32) (x2 : Int32) (x3 : Int32) (s0 : Int32) (h : ph_H) : Prop := PX12_findAhead_147 LP15 LP53 LP96 x1 x2 x3 1 s0 h
set_option maxRecDepth 100000 in
set_option maxHeartbeats 4000000 in
theorem tX12_findAhead_142 {X : fj_X} {Y : fj_Y} {l0 : Launch} {ad : Nat → Nat} (C : FC X Y l0 cX12_findAhead 4 RX12 ({ frames := 2, cells := 0, slots := 0, locals := 49 } : Room) 0 0 none) (L15 : Int32 → ph_H → ph_H) (LP15 : Int32 → ph_H → Prop) (hL15 : ∀ (x1 : Int32) (h : ph_H), LP15 x1 h → RETv X Y ad 50 SM cX12_findAhead (L15 x1 h) → FJ X Y ad 50 SM h 15 [(0, .ref (ad 0)), (1, .int x1)] []) (L53 : Int32 → Int32 → ph_H → ph_H) (LP53 : Int32 → Int32 → ph_H → Prop) (hL53 : ∀ (x1 : Int32) (x2 : Int32) (h : ph_H), LP53 x1 x2 h → RETv X Y ad 50 SM cX12_findAhead (L53 x1 x2 h) → FJ X Y ad 50 SM h 53 [(0, .ref (ad 0)), (1, .int x1), (2, .int x2)] []) (L96 : Int32 → Int32 → Int32 → ph_H → ph_H) (LP96 : Int32 → Int32 → Int32 → ph_H → Prop) (hL96 : ∀ (x1 : Int32) (x2 : Int32) (x3 : Int32) (h : ph_H), LP96 x1 x2 x3 h → RETv X Y ad 50 SM cX12_findAhead (L96 x1 x2 x3 h) → FJ X Y ad 50 SM h 96 [(0, .ref (ad 0)), (1, .int x1), (2, .int x2), (3, .int x3)] []) (x1 : Int32) (x2 : Int32) (x3 : Int32) (s0 : Int32) (h : ph_H) (hP : PX12_findAhead_142 LP15 LP53 LP96 x1 x2 x3 s0 h) (hR : RETv X Y ad 50 SM cX12_findAhead (FX12_findAhead_142 L15 L53 L96 x1 x2 x3 s0 h)) : FJ X Y ad 50 SM h 142 [(0, .ref (ad 0)), (1, .int x1), (2, .int x2), (3, .int x3)] [.int s0, .ref (ad 39)] := by
  unfold PX12_findAhead_142 at hP
  unfold FX12_findAhead_142 at hR
  refine j_iconst (v := 1) C dX12_findAhead_142 (by decide) ?_
  refine j_goto (tgt := 147) C dX12_findAhead_143 (by decide) ?_
  exact j_vl (tX12_findAhead_147 C L15 LP15 hL15 L53 LP53 hL53 L96 LP96 hL96 x1 x2 x3 1 s0 h hP hR) ⟨rfl, rfl, rfl, rfl, trivial⟩
def FX12_findAhead_154 (L15 : Int32 → ph_H → ph_H) (L53 : Int32 → Int32 → ph_H → ph_H) (x1 : Int32) (x2 : Int32) (h : ph_H) : ph_H := L53 x1 (x2 + (-1)) h
def PX12_findAhead_154 (LP15 : Int32 → ph_H → Prop) (LP53 : Int32 → Int32 → ph_H → Prop) (x1 : Int32) (x2 : Int32) (h : ph_H) : Prop := LP53 x1 (x2 + (-1)) h
set_option maxRecDepth 100000 in
set_option maxHeartbeats 4000000 in
theorem tX12_findAhead_154 {X : fj_X} {Y : fj_Y} {l0 : Launch} {ad : Nat → Nat} (C : FC X Y l0 cX12_findAhead 4 RX12 ({ frames := 2, cells := 0, slots := 0, locals := 49 } : Room) 0 0 none) (L15 : Int32 → ph_H → ph_H) (LP15 : Int32 → ph_H → Prop) (hL15 : ∀ (x1 : Int32) (h : ph_H), LP15 x1 h → RETv X Y ad 50 SM cX12_findAhead (L15 x1 h) → FJ X Y ad 50 SM h 15 [(0, .ref (ad 0)), (1, .int x1)] []) (L53 : Int32 → Int32 → ph_H → ph_H) (LP53 : Int32 → Int32 → ph_H → Prop) (hL53 : ∀ (x1 : Int32) (x2 : Int32) (h : ph_H), LP53 x1 x2 h → RETv X Y ad 50 SM cX12_findAhead (L53 x1 x2 h) → FJ X Y ad 50 SM h 53 [(0, .ref (ad 0)), (1, .int x1), (2, .int x2)] []) (x1 : Int32) (x2 : Int32) (h : ph_H) (hP : PX12_findAhead_154 LP15 LP53 x1 x2 h) (hR : RETv X Y ad 50 SM cX12_findAhead (FX12_findAhead_154 L15 L53 x1 x2 h)) : FJ X Y ad 50 SM h 154 [(0, .ref (ad 0)), (1, .int x1), (2, .int x2)] [] := by
  unfold PX12_findAhead_154 at hP
  unfold FX12_findAhead_154 at hR
  refine j_iinc (v := (x2 + (-1))) C dX12_findAhead_154 rfl rfl (by decide) rfl ?_
  refine j_goto (tgt := 53) C dX12_findAhead_157 (by decide) ?_
  exact j_vl (hL53 x1 (x2 + (-1)) h hP hR) ⟨rfl, rfl, rfl, trivial⟩
def FX12_findAhead_96 (L15 : Int32 → ph_H → ph_H) (L53 : Int32 → Int32 → ph_H → ph_H) : Nat → Int32 → Int32 → Int32 → ph_H → ph_H
  | 0, _, _, _, h => h
  | q + 1, x1, x2, x3, h => if x2 ≤ x3 then (FX12_findAhead_154 L15 L53 x1 x2 h) else (if (h 39 (((301 * x3) + x1).toNatClampNeg)) = 0 then (if (h 39 (((301 * x3) + x2).toNatClampNeg)) = 0 then (FX12_findAhead_147 L15 L53 (FX12_findAhead_96 L15 L53 q) x1 x2 x3 0 ((301 * x3) + x1) h) else (FX12_findAhead_142 L15 L53 (FX12_findAhead_96 L15 L53 q) x1 x2 x3 ((301 * x3) + x1) h)) else (FX12_findAhead_142 L15 L53 (FX12_findAhead_96 L15 L53 q) x1 x2 x3 ((301 * x3) + x1) h))
def PX12_findAhead_96 (LP15 : Int32 → ph_H → Prop) (LP53 : Int32 → Int32 → ph_H → Prop) : Nat → Int32 → Int32 → Int32 → ph_H → Prop
  | 0, _, _, _, _ => False
  | q + 1, x1, x2, x3, h => (x2 ≤ x3 → (PX12_findAhead_154 LP15 LP53 x1 x2 h)) ∧ (¬ x2 ≤ x3 → (vp_in ((301 * x3) + x1) 90601 ∧ (((h 39 (((301 * x3) + x1).toNatClampNeg)) = 0 → (vp_in ((301 * x3) + x2) 90601 ∧ (((h 39 (((301 * x3) + x2).toNatClampNeg)) = 0 → (PX12_findAhead_147 LP15 LP53 (PX12_findAhead_96 LP15 LP53 q) x1 x2 x3 0 ((301 * x3) + x1) h)) ∧ (¬ (h 39 (((301 * x3) + x2).toNatClampNeg)) = 0 → (PX12_findAhead_142 LP15 LP53 (PX12_findAhead_96 LP15 LP53 q) x1 x2 x3 ((301 * x3) + x1) h))))) ∧ (¬ (h 39 (((301 * x3) + x1).toNatClampNeg)) = 0 → (PX12_findAhead_142 LP15 LP53 (PX12_findAhead_96 LP15 LP53 q) x1 x2 x3 ((301 * x3) + x1) h)))))
set_option maxRecDepth 100000 in
set_option maxHeartbeats 4000000 in
theorem tX12_findAhead_96 {X : fj_X} {Y : fj_Y} {l0 : Launch} {ad : Nat → Nat} (C : FC X Y l0 cX12_findAhead 4 RX12 ({ frames := 2, cells := 0, slots := 0, locals := 49 } : Room) 0 0 none) (L15 : Int32 → ph_H → ph_H) (LP15 : Int32 → ph_H → Prop) (hL15 : ∀ (x1 : Int32) (h : ph_H), LP15 x1 h → RETv X Y ad 50 SM cX12_findAhead (L15 x1 h) → FJ X Y ad 50 SM h 15 [(0, .ref (ad 0)), (1, .int x1)] []) (L53 : Int32 → Int32 → ph_H → ph_H) (LP53 : Int32 → Int32 → ph_H → Prop) (hL53 : ∀ (x1 : Int32) (x2 : Int32) (h : ph_H), LP53 x1 x2 h → RETv X Y ad 50 SM cX12_findAhead (L53 x1 x2 h) → FJ X Y ad 50 SM h 53 [(0, .ref (ad 0)), (1, .int x1), (2, .int x2)] []) : ∀ (q : Nat) (x1 : Int32) (x2 : Int32) (x3 : Int32) (h : ph_H), PX12_findAhead_96 LP15 LP53 q x1 x2 x3 h → RETv X Y ad 50 SM cX12_findAhead (FX12_findAhead_96 L15 L53 q x1 x2 x3 h) → FJ X Y ad 50 SM h 96 [(0, .ref (ad 0)), (1, .int x1), (2, .int x2), (3, .int x3)] [] := by
  intro q
  induction q with
  | zero =>
    intro x1 x2 x3 h hP hR
    exact absurd hP id
  | succ q ih =>
    intro x1 x2 x3 h hP hR
    unfold PX12_findAhead_96 at hP
    unfold FX12_findAhead_96 at hR
    refine j_iload_n C dX12_findAhead_96 rfl rfl ?_
    refine j_iload_n C dX12_findAhead_97 rfl rfl ?_
    refine j_icmp_ge (tgt := 154) C dX12_findAhead_98 (by decide) (fun c0 => ?_) (fun c0 => ?_)
    · have hP := hP.1 c0
      rw [if_pos c0] at hR
      exact j_vl (tX12_findAhead_154 C L15 LP15 hL15 L53 LP53 hL53 x1 x2 h hP hR) ⟨rfl, rfl, rfl, trivial⟩
    · have hP := hP.2 c0
      rw [if_neg c0] at hR
      refine j_aload_n C dX12_findAhead_101 rfl rfl ?_
      refine gM_127 C dX12_findAhead_102 ?_
      refine j_sipush (v := 301) C dX12_findAhead_105 (by decide) ?_
      refine j_iload_n C dX12_findAhead_108 rfl rfl ?_
      refine j_imul C dX12_findAhead_109 ?_
      refine j_iload_n C dX12_findAhead_110 rfl rfl ?_
      refine j_iadd C dX12_findAhead_111 ?_
      refine j_aload_n C dX12_findAhead_112 rfl rfl ?_
      refine gM_127 C dX12_findAhead_113 ?_
      refine j_sipush (v := 301) C dX12_findAhead_116 (by decide) ?_
      refine j_iload_n C dX12_findAhead_119 rfl rfl ?_
      refine j_imul C dX12_findAhead_120 ?_
      refine j_iload_n C dX12_findAhead_121 rfl rfl ?_
      refine j_iadd C dX12_findAhead_122 ?_
      obtain ⟨p14, hP⟩ := hP
      refine j_zald (k := 39) (v := (h 39 (((301 * x3) + x1).toNatClampNeg))) C dX12_findAhead_123 (by decide) rfl p14 rfl ?_
      refine j_if_ne (tgt := 142) C dX12_findAhead_124 (by decide) (fun c1 => ?_) (fun c1 => ?_)
      · have hP := hP.2 c1
        rw [if_neg c1] at hR
        exact j_vl (tX12_findAhead_142 C L15 LP15 hL15 L53 LP53 hL53 (FX12_findAhead_96 L15 L53 q) (PX12_findAhead_96 LP15 LP53 q) (ih) x1 x2 x3 ((301 * x3) + x1) h hP hR) ⟨rfl, rfl, rfl, rfl, trivial⟩
      · have hP := hP.1 c1
        rw [if_pos c1] at hR
        refine j_aload_n C dX12_findAhead_127 rfl rfl ?_
        refine gM_127 C dX12_findAhead_128 ?_
        refine j_sipush (v := 301) C dX12_findAhead_131 (by decide) ?_
        refine j_iload_n C dX12_findAhead_134 rfl rfl ?_
        refine j_imul C dX12_findAhead_135 ?_
        refine j_iload_n C dX12_findAhead_136 rfl rfl ?_
        refine j_iadd C dX12_findAhead_137 ?_
        obtain ⟨p7, hP⟩ := hP
        refine j_zald (k := 39) (v := (h 39 (((301 * x3) + x2).toNatClampNeg))) C dX12_findAhead_138 (by decide) rfl p7 rfl ?_
        refine j_if_eq (tgt := 146) C dX12_findAhead_139 (by decide) (fun c2 => ?_) (fun c2 => ?_)
        · have hP := hP.1 c2
          rw [if_pos c2] at hR
          refine j_iconst (v := 0) C dX12_findAhead_146 (by decide) ?_
          exact j_vl (tX12_findAhead_147 C L15 LP15 hL15 L53 LP53 hL53 (FX12_findAhead_96 L15 L53 q) (PX12_findAhead_96 LP15 LP53 q) (ih) x1 x2 x3 0 ((301 * x3) + x1) h hP hR) ⟨rfl, rfl, rfl, rfl, trivial⟩
        · have hP := hP.2 c2
          rw [if_neg c2] at hR
          exact j_vl (tX12_findAhead_142 C L15 LP15 hL15 L53 LP53 hL53 (FX12_findAhead_96 L15 L53 q) (PX12_findAhead_96 LP15 LP53 q) (ih) x1 x2 x3 ((301 * x3) + x1) h hP hR) ⟨rfl, rfl, rfl, rfl, trivial⟩
def FX12_findAhead_53 (L15 : Int32 → ph_H → ph_H) : Nat → Int32 → Int32 → ph_H → ph_H
  | 0, _, _, h => h
  | q + 1, x1, x2, h => if x2 ≤ 0 then (L15 (x1 + 1) h) else (if (h 39 (((301 * x2) + x1).toNatClampNeg)) = 0 then (if (FX12_isDirect x2 x1 h) = 0 then (FX12_findAhead_154 L15 (FX12_findAhead_53 L15 q) x1 x2 h) else (FX12_findAhead_96 L15 (FX12_findAhead_53 L15 q) 2000 x1 x2 1 (hs h 39 ((301 * x2) + x1).toNatClampNeg (vp_nar .boolean 1)))) else (FX12_findAhead_154 L15 (FX12_findAhead_53 L15 q) x1 x2 h))
def PX12_findAhead_53 (LP15 : Int32 → ph_H → Prop) : Nat → Int32 → Int32 → ph_H → Prop
  | 0, _, _, _ => False
  | q + 1, x1, x2, h => (x2 ≤ 0 → (LP15 (x1 + 1) h)) ∧ (¬ x2 ≤ 0 → (vp_in ((301 * x2) + x1) 90601 ∧ (((h 39 (((301 * x2) + x1).toNatClampNeg)) = 0 → ((PX12_isDirect x2 x1 h) ∧ (((FX12_isDirect x2 x1 h) = 0 → (PX12_findAhead_154 LP15 (PX12_findAhead_53 LP15 q) x1 x2 h)) ∧ (¬ (FX12_isDirect x2 x1 h) = 0 → (vp_in ((301 * x2) + x1) 90601 ∧ (PX12_findAhead_96 LP15 (PX12_findAhead_53 LP15 q) 2000 x1 x2 1 (hs h 39 ((301 * x2) + x1).toNatClampNeg (vp_nar .boolean 1)))))))) ∧ (¬ (h 39 (((301 * x2) + x1).toNatClampNeg)) = 0 → (PX12_findAhead_154 LP15 (PX12_findAhead_53 LP15 q) x1 x2 h)))))
set_option maxRecDepth 100000 in
set_option maxHeartbeats 4000000 in
theorem tX12_findAhead_53 {X : fj_X} {Y : fj_Y} {l0 : Launch} {ad : Nat → Nat} (C : FC X Y l0 cX12_findAhead 4 RX12 ({ frames := 2, cells := 0, slots := 0, locals := 49 } : Room) 0 0 none) (L15 : Int32 → ph_H → ph_H) (LP15 : Int32 → ph_H → Prop) (hL15 : ∀ (x1 : Int32) (h : ph_H), LP15 x1 h → RETv X Y ad 50 SM cX12_findAhead (L15 x1 h) → FJ X Y ad 50 SM h 15 [(0, .ref (ad 0)), (1, .int x1)] []) : ∀ (q : Nat) (x1 : Int32) (x2 : Int32) (h : ph_H), PX12_findAhead_53 LP15 q x1 x2 h → RETv X Y ad 50 SM cX12_findAhead (FX12_findAhead_53 L15 q x1 x2 h) → FJ X Y ad 50 SM h 53 [(0, .ref (ad 0)), (1, .int x1), (2, .int x2)] [] := by
  intro q
  induction q with
  | zero =>
    intro x1 x2 h hP hR
    exact absurd hP id
  | succ q ih =>
    intro x1 x2 h hP hR
    unfold PX12_findAhead_53 at hP
    unfold FX12_findAhead_53 at hR
    refine j_iload_n C dX12_findAhead_53 rfl rfl ?_
    refine j_if_le (tgt := 160) C dX12_findAhead_54 (by decide) (fun c0 => ?_) (fun c0 => ?_)
    · have hP := hP.1 c0
      rw [if_pos c0] at hR
      refine j_iinc (v := (x1 + 1)) C dX12_findAhead_160 rfl rfl (by decide) rfl ?_
      refine j_goto (tgt := 15) C dX12_findAhead_163 (by decide) ?_
      exact j_vl (hL15 (x1 + 1) h hP hR) ⟨rfl, rfl, trivial⟩
    · have hP := hP.2 c0
      rw [if_neg c0] at hR
      refine j_aload_n C dX12_findAhead_57 rfl rfl ?_
      refine gM_127 C dX12_findAhead_58 ?_
      refine j_sipush (v := 301) C dX12_findAhead_61 (by decide) ?_
      refine j_iload_n C dX12_findAhead_64 rfl rfl ?_
      refine j_imul C dX12_findAhead_65 ?_
      refine j_iload_n C dX12_findAhead_66 rfl rfl ?_
      refine j_iadd C dX12_findAhead_67 ?_
      obtain ⟨p7, hP⟩ := hP
      refine j_zald (k := 39) (v := (h 39 (((301 * x2) + x1).toNatClampNeg))) C dX12_findAhead_68 (by decide) rfl p7 rfl ?_
      refine j_if_ne (tgt := 154) C dX12_findAhead_69 (by decide) (fun c1 => ?_) (fun c1 => ?_)
      · have hP := hP.2 c1
        rw [if_neg c1] at hR
        exact j_vl (tX12_findAhead_154 C L15 LP15 hL15 (FX12_findAhead_53 L15 q) (PX12_findAhead_53 LP15 q) (ih) x1 x2 h hP hR) ⟨rfl, rfl, rfl, trivial⟩
      · have hP := hP.1 c1
        rw [if_pos c1] at hR
        refine j_aload_n C dX12_findAhead_72 rfl rfl ?_
        refine j_iload_n C dX12_findAhead_73 rfl rfl ?_
        refine j_iload_n C dX12_findAhead_74 rfl rfl ?_
        obtain ⟨p3, hP⟩ := hP
        refine j_callV C (MX12_isDirect x2 x1 h p3) dX12_findAhead_75 (CKX12_isDirect (by decide)) ⟨rfl, rfl⟩ lk_RX12_331 in_X12_isDirect se_X12_isDirect (by decide) rfl rfl rfl (Nat.le_of_ble_eq_true rfl) ?_
        intro r S' h' hq
        obtain ⟨rfl, hh, rfl, hb5⟩ := hq
        rw [hh]
        refine j_if_eq (tgt := 154) C dX12_findAhead_78 (by decide) (fun c2 => ?_) (fun c2 => ?_)
        · have hP := hP.1 c2
          rw [if_pos c2] at hR
          exact j_vl (tX12_findAhead_154 C L15 LP15 hL15 (FX12_findAhead_53 L15 q) (PX12_findAhead_53 LP15 q) (ih) x1 x2 h hP hR) ⟨rfl, rfl, rfl, trivial⟩
        · have hP := hP.2 c2
          rw [if_neg c2] at hR
          refine j_aload_n C dX12_findAhead_81 rfl rfl ?_
          refine gM_127 C dX12_findAhead_82 ?_
          refine j_sipush (v := 301) C dX12_findAhead_85 (by decide) ?_
          refine j_iload_n C dX12_findAhead_88 rfl rfl ?_
          refine j_imul C dX12_findAhead_89 ?_
          refine j_iload_n C dX12_findAhead_90 rfl rfl ?_
          refine j_iadd C dX12_findAhead_91 ?_
          refine j_iconst (v := 1) C dX12_findAhead_92 (by decide) ?_
          obtain ⟨p8, hP⟩ := hP
          refine j_zast (k := 39) C dX12_findAhead_93 (by decide) rfl p8 ?_
          refine j_iconst (v := 1) C dX12_findAhead_94 (by decide) ?_
          refine j_istore_n C dX12_findAhead_95 rfl (by decide) rfl ?_
          exact j_vl (tX12_findAhead_96 C L15 LP15 hL15 (FX12_findAhead_53 L15 q) (PX12_findAhead_53 LP15 q) (ih) 2000 x1 x2 1 (hs h 39 ((301 * x2) + x1).toNatClampNeg (vp_nar .boolean 1)) hP hR) ⟨rfl, rfl, rfl, rfl, trivial⟩
def FX12_findAhead_25 (L15 : Int32 → ph_H → ph_H) : Nat → Int32 → Int32 → ph_H → ph_H
  | 0, _, _, h => h
  | q + 1, x1, x2, h => if x1 ≤ x2 then (FX12_findAhead_53 L15 2000 x1 (x1 - 1) h) else (FX12_findAhead_25 L15 q x1 (x2 + 1) (hs h 39 ((301 * x2) + x1).toNatClampNeg (vp_nar .boolean 0)))
def PX12_findAhead_25 (LP15 : Int32 → ph_H → Prop) : Nat → Int32 → Int32 → ph_H → Prop
  | 0, _, _, _ => False
  | q + 1, x1, x2, h => (x1 ≤ x2 → (PX12_findAhead_53 LP15 2000 x1 (x1 - 1) h)) ∧ (¬ x1 ≤ x2 → (vp_in ((301 * x2) + x1) 90601 ∧ (PX12_findAhead_25 LP15 q x1 (x2 + 1) (hs h 39 ((301 * x2) + x1).toNatClampNeg (vp_nar .boolean 0)))))
set_option maxRecDepth 100000 in
set_option maxHeartbeats 4000000 in
theorem tX12_findAhead_25 {X : fj_X} {Y : fj_Y} {l0 : Launch} {ad : Nat → Nat} (C : FC X Y l0 cX12_findAhead 4 RX12 ({ frames := 2, cells := 0, slots := 0, locals := 49 } : Room) 0 0 none) (L15 : Int32 → ph_H → ph_H) (LP15 : Int32 → ph_H → Prop) (hL15 : ∀ (x1 : Int32) (h : ph_H), LP15 x1 h → RETv X Y ad 50 SM cX12_findAhead (L15 x1 h) → FJ X Y ad 50 SM h 15 [(0, .ref (ad 0)), (1, .int x1)] []) : ∀ (q : Nat) (x1 : Int32) (x2 : Int32) (h : ph_H), PX12_findAhead_25 LP15 q x1 x2 h → RETv X Y ad 50 SM cX12_findAhead (FX12_findAhead_25 L15 q x1 x2 h) → FJ X Y ad 50 SM h 25 [(0, .ref (ad 0)), (1, .int x1), (2, .int x2)] [] := by
  intro q
  induction q with
  | zero =>
    intro x1 x2 h hP hR
    exact absurd hP id
  | succ q ih =>
    intro x1 x2 h hP hR
    unfold PX12_findAhead_25 at hP
    unfold FX12_findAhead_25 at hR
    refine j_iload_n C dX12_findAhead_25 rfl rfl ?_
    refine j_iload_n C dX12_findAhead_26 rfl rfl ?_
    refine j_icmp_ge (tgt := 49) C dX12_findAhead_27 (by decide) (fun c0 => ?_) (fun c0 => ?_)
    · have hP := hP.1 c0
      rw [if_pos c0] at hR
      refine j_iload_n C dX12_findAhead_49 rfl rfl ?_
      refine j_iconst (v := 1) C dX12_findAhead_50 (by decide) ?_
      refine j_isub C dX12_findAhead_51 ?_
      refine j_istore_n C dX12_findAhead_52 rfl (by decide) rfl ?_
      exact j_vl (tX12_findAhead_53 C L15 LP15 hL15 2000 x1 (x1 - 1) h hP hR) ⟨rfl, rfl, rfl, trivial⟩
    · have hP := hP.2 c0
      rw [if_neg c0] at hR
      refine j_aload_n C dX12_findAhead_30 rfl rfl ?_
      refine gM_127 C dX12_findAhead_31 ?_
      refine j_sipush (v := 301) C dX12_findAhead_34 (by decide) ?_
      refine j_iload_n C dX12_findAhead_37 rfl rfl ?_
      refine j_imul C dX12_findAhead_38 ?_
      refine j_iload_n C dX12_findAhead_39 rfl rfl ?_
      refine j_iadd C dX12_findAhead_40 ?_
      refine j_iconst (v := 0) C dX12_findAhead_41 (by decide) ?_
      obtain ⟨p8, hP⟩ := hP
      refine j_zast (k := 39) C dX12_findAhead_42 (by decide) rfl p8 ?_
      refine j_iinc (v := (x2 + 1)) C dX12_findAhead_43 rfl rfl (by decide) rfl ?_
      refine j_goto (tgt := 25) C dX12_findAhead_46 (by decide) ?_
      exact j_vl (ih x1 (x2 + 1) (hs h 39 ((301 * x2) + x1).toNatClampNeg (vp_nar .boolean 0)) hP hR) ⟨rfl, rfl, rfl, trivial⟩
def FX12_findAhead_15  : Nat → Int32 → ph_H → ph_H
  | 0, _, h => h
  | q + 1, x1, h => if (h 0 38) < x1 then (h) else (FX12_findAhead_25 (FX12_findAhead_15  q) 2000 x1 1 h)
def PX12_findAhead_15  : Nat → Int32 → ph_H → Prop
  | 0, _, _ => False
  | q + 1, x1, h => ((h 0 38) < x1 → (True)) ∧ (¬ (h 0 38) < x1 → (PX12_findAhead_25 (PX12_findAhead_15  q) 2000 x1 1 h))
set_option maxRecDepth 100000 in
set_option maxHeartbeats 4000000 in
theorem tX12_findAhead_15 {X : fj_X} {Y : fj_Y} {l0 : Launch} {ad : Nat → Nat} (C : FC X Y l0 cX12_findAhead 4 RX12 ({ frames := 2, cells := 0, slots := 0, locals := 49 } : Room) 0 0 none) : ∀ (q : Nat) (x1 : Int32) (h : ph_H), PX12_findAhead_15  q x1 h → RETv X Y ad 50 SM cX12_findAhead (FX12_findAhead_15  q x1 h) → FJ X Y ad 50 SM h 15 [(0, .ref (ad 0)), (1, .int x1)] [] := by
  intro q
  induction q with
  | zero =>
    intro x1 h hP hR
    exact absurd hP id
  | succ q ih =>
    intro x1 h hP hR
    unfold PX12_findAhead_15 at hP
    unfold FX12_findAhead_15 at hR
    refine j_iload_n C dX12_findAhead_15 rfl rfl ?_
    refine j_aload_n C dX12_findAhead_16 rfl rfl ?_
    refine gM_304 (v := (h 0 38)) C dX12_findAhead_17 rfl ?_
    refine j_icmp_gt (tgt := 166) C dX12_findAhead_20 (by decide) (fun c0 => ?_) (fun c0 => ?_)
    · have hP := hP.1 c0
      rw [if_pos c0] at hR
      exact hR _ _ dX12_findAhead_166
    · have hP := hP.2 c0
      rw [if_neg c0] at hR
      refine j_iconst (v := 1) C dX12_findAhead_23 (by decide) ?_
      refine j_istore_n C dX12_findAhead_24 rfl (by decide) rfl ?_
      exact j_vl (tX12_findAhead_25 C (FX12_findAhead_15  q) (PX12_findAhead_15  q) (ih) 2000 x1 1 h hP hR) ⟨rfl, rfl, rfl, trivial⟩
def FX12_findAhead (h : ph_H) : ph_H := if (h 0 64) = 0 then (FX12_findAhead_15 2000 1 (hs h 0 64 1)) else (h)
def PX12_findAhead (h : ph_H) : Prop := ((h 0 64) = 0 → (PX12_findAhead_15 2000 1 (hs h 0 64 1))) ∧ (¬ (h 0 64) = 0 → (True))
set_option maxRecDepth 100000 in
set_option maxHeartbeats 4000000 in
theorem tX12_findAhead {X : fj_X} {Y : fj_Y} {l0 : Launch} {ad : Nat → Nat} (C : FC X Y l0 cX12_findAhead 4 RX12 ({ frames := 2, cells := 0, slots := 0, locals := 49 } : Room) 0 0 none) (h : ph_H) (hP : PX12_findAhead h) (hR : RETv X Y ad 50 SM cX12_findAhead (FX12_findAhead h)) : FJ X Y ad 50 SM h 0 [(0, .ref (ad 0))] [] := by
  unfold PX12_findAhead at hP
  unfold FX12_findAhead at hR
  refine j_aload_n C dX12_findAhead_0 rfl rfl ?_
  refine gM_288 (v := (h 0 64)) C dX12_findAhead_1 rfl ?_
  refine j_if_eq (tgt := 8) C dX12_findAhead_4 (by decide) (fun c0 => ?_) (fun c0 => ?_)
  · have hP := hP.1 c0
    rw [if_pos c0] at hR
    refine j_aload_n C dX12_findAhead_8 rfl rfl ?_
    refine j_iconst (v := 1) C dX12_findAhead_9 (by decide) ?_
    refine pM_288 C dX12_findAhead_10 bo_1 ?_
    refine j_iconst (v := 1) C dX12_findAhead_13 (by decide) ?_
    refine j_istore_n C dX12_findAhead_14 rfl (by decide) rfl ?_
    exact j_vl (tX12_findAhead_15 C 2000 1 (hs h 0 64 1) hP hR) ⟨rfl, rfl, trivial⟩
  · have hP := hP.2 c0
    rw [if_neg c0] at hR
    exact hR _ _ dX12_findAhead_7
theorem MX12_findAhead {l0 : Launch} {Y : fj_Y} {ad : Nat → Nat} (h : ph_H) (hP : PX12_findAhead h) : MV l0 yX12_findAhead cX12_findAhead 4 ({ frames := 2, cells := 0, slots := 0, locals := 49 } : Room) Y ad 50 SM h [.ref (ad 0)] (fun S' h' => S' = SM ∧ h' = FX12_findAhead h) := met_v (by decide) (Nat.le_of_ble_eq_true rfl) (fun X C K => j_vl (tX12_findAhead C h hP (fun pc lv hd => K _ _ ⟨rfl, rfl⟩ pc lv hd)) ⟨rfl, trivial⟩)
