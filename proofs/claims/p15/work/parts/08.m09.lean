-- X12_isShelf
def FX12_isShelf (a0 : Int32) : Int32 := if a0 < 0 then (0) else (if 8 ≤ a0 then (0) else (1))
def PX12_isShelf (a0 : Int32) : Prop := (a0 < 0 → (True)) ∧ (¬ a0 < 0 → ((8 ≤ a0 → (True)) ∧ (¬ 8 ≤ a0 → (True))))
set_option maxRecDepth 100000 in
set_option maxHeartbeats 4000000 in
theorem tX12_isShelf {X : fj_X} {Y : fj_Y} {l0 : Launch} {ad : Nat → Nat} (C : FC X Y l0 cX12_isShelf 1 RX12 ({ frames := 0, cells := 0, slots := 0, locals := 0 } : Room) 0 0 (some .boolean)) (a0 : Int32) (h : ph_H) (hP : PX12_isShelf a0) (hR : RETq X Y ad 50 SM h cX12_isShelf (FX12_isShelf a0)) : FJ X Y ad 50 SM h 0 [(0, .int a0)] [] := by
  unfold PX12_isShelf at hP
  unfold FX12_isShelf at hR
  refine j_iload_n C dX12_isShelf_0 rfl rfl ?_
  refine j_if_lt (tgt := 14) C dX12_isShelf_1 (by decide) (fun c0 => ?_) (fun c0 => ?_)
  · have hP := hP.1 c0
    rw [if_pos c0] at hR
    refine j_iconst (v := 0) C dX12_isShelf_14 (by decide) ?_
    exact hR bo_0 _ _ dX12_isShelf_15
  · have hP := hP.2 c0
    rw [if_neg c0] at hR
    refine j_iload_n C dX12_isShelf_4 rfl rfl ?_
    refine j_bipush (v := 8) C dX12_isShelf_5 (by decide) ?_
    refine j_icmp_ge (tgt := 14) C dX12_isShelf_7 (by decide) (fun c1 => ?_) (fun c1 => ?_)
    · have hP := hP.1 c1
      rw [if_pos c1] at hR
      refine j_iconst (v := 0) C dX12_isShelf_14 (by decide) ?_
      exact hR bo_0 _ _ dX12_isShelf_15
    · have hP := hP.2 c1
      rw [if_neg c1] at hR
      refine j_iconst (v := 1) C dX12_isShelf_10 (by decide) ?_
      refine j_goto (tgt := 15) C dX12_isShelf_11 (by decide) ?_
      exact hR bo_1 _ _ dX12_isShelf_15
theorem MX12_isShelf {l0 : Launch} {Y : fj_Y} {ad : Nat → Nat} (a0 : Int32) (h : ph_H) (hP : PX12_isShelf a0) : MI l0 yX12_isShelf cX12_isShelf 1 (some .boolean) ({ frames := 0, cells := 0, slots := 0, locals := 0 } : Room) Y ad 50 SM h [.int a0] (fun r S' h' => S' = SM ∧ h' = h ∧ r = FX12_isShelf a0 ∧ bo r) := met_i (by decide) (Nat.le_of_ble_eq_true rfl) (fun _ _ _ q => bo_n q.2.2.2) (fun X C K => j_vl (tX12_isShelf C a0 h hP (fun b pc lv hd => K _ _ _ ⟨rfl, rfl, rfl, b⟩ pc lv hd)) ⟨rfl, trivial⟩)

-- X12_keep_
def FX12_keep__246 (L174 : Int32 → Int32 → Int32 → ph_H → Int32 × ph_H) (x1 : Int32) (x2 : Int32) (x4 : Int32) (s0 : Int32) (s1 : Int32) (h : ph_H) : Int32 × ph_H := L174 x1 x2 (x4 + 1) (hs h 48 s1.toNatClampNeg s0)
def PX12_keep__246 (LP174 : Int32 → Int32 → Int32 → ph_H → Prop) (x1 : Int32) (x2 : Int32) (x4 : Int32) (s0 : Int32) (s1 : Int32) (h : ph_H) : Prop := vp_in s1 480 ∧ (LP174 x1 x2 (x4 + 1) (hs h 48 s1.toNatClampNeg s0))
set_option maxRecDepth 100000 in
set_option maxHeartbeats 4000000 in
theorem tX12_keep__246 {X : fj_X} {Y : fj_Y} {l0 : Launch} {ad : Nat → Nat} (C : FC X Y l0 cX12_keep_ 6 RX12 ({ frames := 1, cells := 0, slots := 0, locals := 25 } : Room) 0 0 (some .int)) (L174 : Int32 → Int32 → Int32 → ph_H → Int32 × ph_H) (LP174 : Int32 → Int32 → Int32 → ph_H → Prop) (hL174 : ∀ (x1 : Int32) (x2 : Int32) (x4 : Int32) (h : ph_H), LP174 x1 x2 x4 h → RETi X Y ad 50 SM cX12_keep_ (L174 x1 x2 x4 h) → FJ X Y ad 50 SM h 174 [(0, .ref (ad 0)), (1, .int x1), (2, .int x2), (4, .int x4)] []) (x1 : Int32) (x2 : Int32) (x4 : Int32) (s0 : Int32) (s1 : Int32) (h : ph_H) (hP : PX12_keep__246 LP174 x1 x2 x4 s0 s1 h) (hR : RETi X Y ad 50 SM cX12_keep_ (FX12_keep__246 L174 x1 x2 x4 s0 s1 h)) : FJ X Y ad 50 SM h 246 [(0, .ref (ad 0)), (1, .int x1), (2, .int x2), (4, .int x4)] [.int s0, .int s1, .ref (ad 48)] := by
  unfold PX12_keep__246 at hP
  unfold FX12_keep__246 at hR
  obtain ⟨p0, hP⟩ := hP
  refine j_iast (k := 48) C dX12_keep__246 (by decide) rfl p0 ?_
  refine j_iinc (v := (x4 + 1)) C dX12_keep__247 rfl rfl (by decide) rfl ?_
  refine j_goto (tgt := 174) C dX12_keep__250 (by decide) ?_
  exact j_vl (hL174 x1 x2 (x4 + 1) (hs h 48 s1.toNatClampNeg s0) hP hR) ⟨rfl, rfl, rfl, rfl, trivial⟩
def FX12_keep__174  : Nat → Int32 → Int32 → Int32 → ph_H → Int32 × ph_H
  | 0, _, _, _, h => (0, h)
  | q + 1, x1, x2, x4, h => if (h 45 (x1.toNatClampNeg)) ≤ x4 then ((0, h)) else (if x2 = 2 then (FX12_keep__246 (FX12_keep__174  q) x1 x2 x4 (h 29 ((x4 + 1).toNatClampNeg)) ((60 * x1) + x4) h) else (if (h 20 (((28 * (h 0 38)) + x4).toNatClampNeg)) = 0 then (FX12_keep__246 (FX12_keep__174  q) x1 x2 x4 (h 21 (((28 * (h 0 38)) + x4).toNatClampNeg)) ((60 * x1) + x4) h) else (FX12_keep__246 (FX12_keep__174  q) x1 x2 x4 0 ((60 * x1) + x4) h)))
def PX12_keep__174  : Nat → Int32 → Int32 → Int32 → ph_H → Prop
  | 0, _, _, _, _ => False
  | q + 1, x1, x2, x4, h => vp_in x1 8 ∧ (((h 45 (x1.toNatClampNeg)) ≤ x4 → (True)) ∧ (¬ (h 45 (x1.toNatClampNeg)) ≤ x4 → ((x2 = 2 → (vp_in (x4 + 1) 301 ∧ (PX12_keep__246 (PX12_keep__174  q) x1 x2 x4 (h 29 ((x4 + 1).toNatClampNeg)) ((60 * x1) + x4) h))) ∧ (¬ x2 = 2 → (vp_in ((28 * (h 0 38)) + x4) 8428 ∧ (((h 20 (((28 * (h 0 38)) + x4).toNatClampNeg)) = 0 → (vp_in ((28 * (h 0 38)) + x4) 8428 ∧ (PX12_keep__246 (PX12_keep__174  q) x1 x2 x4 (h 21 (((28 * (h 0 38)) + x4).toNatClampNeg)) ((60 * x1) + x4) h))) ∧ (¬ (h 20 (((28 * (h 0 38)) + x4).toNatClampNeg)) = 0 → (PX12_keep__246 (PX12_keep__174  q) x1 x2 x4 0 ((60 * x1) + x4) h))))))))
set_option maxRecDepth 100000 in
set_option maxHeartbeats 4000000 in
theorem tX12_keep__174 {X : fj_X} {Y : fj_Y} {l0 : Launch} {ad : Nat → Nat} (C : FC X Y l0 cX12_keep_ 6 RX12 ({ frames := 1, cells := 0, slots := 0, locals := 25 } : Room) 0 0 (some .int)) : ∀ (q : Nat) (x1 : Int32) (x2 : Int32) (x4 : Int32) (h : ph_H), PX12_keep__174  q x1 x2 x4 h → RETi X Y ad 50 SM cX12_keep_ (FX12_keep__174  q x1 x2 x4 h) → FJ X Y ad 50 SM h 174 [(0, .ref (ad 0)), (1, .int x1), (2, .int x2), (4, .int x4)] [] := by
  intro q
  induction q with
  | zero =>
    intro x1 x2 x4 h hP hR
    exact absurd hP id
  | succ q ih =>
    intro x1 x2 x4 h hP hR
    unfold PX12_keep__174 at hP
    unfold FX12_keep__174 at hR
    refine j_iload C dX12_keep__174 rfl ?_
    refine j_aload_n C dX12_keep__176 rfl rfl ?_
    refine gM_149 C dX12_keep__177 ?_
    refine j_iload_n C dX12_keep__180 rfl rfl ?_
    obtain ⟨p4, hP⟩ := hP
    refine j_iald (k := 45) (v := (h 45 (x1.toNatClampNeg))) C dX12_keep__181 (by decide) rfl p4 rfl ?_
    refine j_icmp_ge (tgt := 253) C dX12_keep__182 (by decide) (fun c0 => ?_) (fun c0 => ?_)
    · have hP := hP.1 c0
      rw [if_pos c0] at hR
      refine j_iconst (v := 0) C dX12_keep__253 (by decide) ?_
      exact hR _ _ dX12_keep__254
    · have hP := hP.2 c0
      rw [if_neg c0] at hR
      refine j_bipush (v := 28) C dX12_keep__185 (by decide) ?_
      refine j_aload_n C dX12_keep__187 rfl rfl ?_
      refine gM_304 (v := (h 0 38)) C dX12_keep__188 rfl ?_
      refine j_imul C dX12_keep__191 ?_
      refine j_iload C dX12_keep__192 rfl ?_
      refine j_iadd C dX12_keep__194 ?_
      refine j_istore C dX12_keep__195 (by decide) rfl ?_
      refine j_aload_n C dX12_keep__197 rfl rfl ?_
      refine gM_158 C dX12_keep__198 ?_
      refine j_bipush (v := 60) C dX12_keep__201 (by decide) ?_
      refine j_iload_n C dX12_keep__203 rfl rfl ?_
      refine j_imul C dX12_keep__204 ?_
      refine j_iload C dX12_keep__205 rfl ?_
      refine j_iadd C dX12_keep__207 ?_
      refine j_iload_n C dX12_keep__208 rfl rfl ?_
      refine j_iconst (v := 2) C dX12_keep__209 (by decide) ?_
      refine j_icmp_ne (tgt := 225) C dX12_keep__210 (by decide) (fun c1 => ?_) (fun c1 => ?_)
      · have hP := hP.2 c1
        rw [if_neg c1] at hR
        refine j_aload_n C dX12_keep__225 rfl rfl ?_
        refine gM_68 C dX12_keep__226 ?_
        refine j_iload C dX12_keep__229 rfl ?_
        obtain ⟨p3, hP⟩ := hP
        refine j_iald (k := 20) (v := (h 20 (((28 * (h 0 38)) + x4).toNatClampNeg))) C dX12_keep__231 (by decide) rfl p3 rfl ?_
        refine j_if_ne (tgt := 245) C dX12_keep__232 (by decide) (fun c2 => ?_) (fun c2 => ?_)
        · have hP := hP.2 c2
          rw [if_neg c2] at hR
          refine j_iconst (v := 0) C dX12_keep__245 (by decide) ?_
          exact j_vl (tX12_keep__246 C (FX12_keep__174  q) (PX12_keep__174  q) (ih) x1 x2 x4 0 ((60 * x1) + x4) h hP hR) ⟨rfl, rfl, rfl, rfl, trivial⟩
        · have hP := hP.1 c2
          rw [if_pos c2] at hR
          refine j_aload_n C dX12_keep__235 rfl rfl ?_
          refine gM_71 C dX12_keep__236 ?_
          refine j_iload C dX12_keep__239 rfl ?_
          obtain ⟨p3, hP⟩ := hP
          refine j_iald (k := 21) (v := (h 21 (((28 * (h 0 38)) + x4).toNatClampNeg))) C dX12_keep__241 (by decide) rfl p3 rfl ?_
          refine j_goto (tgt := 246) C dX12_keep__242 (by decide) ?_
          exact j_vl (tX12_keep__246 C (FX12_keep__174  q) (PX12_keep__174  q) (ih) x1 x2 x4 (h 21 (((28 * (h 0 38)) + x4).toNatClampNeg)) ((60 * x1) + x4) h hP hR) ⟨rfl, rfl, rfl, rfl, trivial⟩
      · have hP := hP.1 c1
        rw [if_pos c1] at hR
        refine j_aload_n C dX12_keep__213 rfl rfl ?_
        refine gM_96 C dX12_keep__214 ?_
        refine j_iload C dX12_keep__217 rfl ?_
        refine j_iconst (v := 1) C dX12_keep__219 (by decide) ?_
        refine j_iadd C dX12_keep__220 ?_
        obtain ⟨p5, hP⟩ := hP
        refine j_iald (k := 29) (v := (h 29 ((x4 + 1).toNatClampNeg))) C dX12_keep__221 (by decide) rfl p5 rfl ?_
        refine j_goto (tgt := 246) C dX12_keep__222 (by decide) ?_
        exact j_vl (tX12_keep__246 C (FX12_keep__174  q) (PX12_keep__174  q) (ih) x1 x2 x4 (h 29 ((x4 + 1).toNatClampNeg)) ((60 * x1) + x4) h hP hR) ⟨rfl, rfl, rfl, rfl, trivial⟩
def FX12_keep__170  (x1 : Int32) (x2 : Int32) (s0 : Int32) (s1 : Int32) (h : ph_H) : Int32 × ph_H := FX12_keep__174 2000 x1 x2 0 (hs h 45 s1.toNatClampNeg s0)
def PX12_keep__170  (x1 : Int32) (x2 : Int32) (s0 : Int32) (s1 : Int32) (h : ph_H) : Prop := vp_in s1 8 ∧ (PX12_keep__174 2000 x1 x2 0 (hs h 45 s1.toNatClampNeg s0))
set_option maxRecDepth 100000 in
set_option maxHeartbeats 4000000 in
theorem tX12_keep__170 {X : fj_X} {Y : fj_Y} {l0 : Launch} {ad : Nat → Nat} (C : FC X Y l0 cX12_keep_ 6 RX12 ({ frames := 1, cells := 0, slots := 0, locals := 25 } : Room) 0 0 (some .int)) (x1 : Int32) (x2 : Int32) (s0 : Int32) (s1 : Int32) (h : ph_H) (hP : PX12_keep__170  x1 x2 s0 s1 h) (hR : RETi X Y ad 50 SM cX12_keep_ (FX12_keep__170  x1 x2 s0 s1 h)) : FJ X Y ad 50 SM h 170 [(0, .ref (ad 0)), (1, .int x1), (2, .int x2)] [.int s0, .int s1, .ref (ad 45)] := by
  unfold PX12_keep__170 at hP
  unfold FX12_keep__170 at hR
  obtain ⟨p0, hP⟩ := hP
  refine j_iast (k := 45) C dX12_keep__170 (by decide) rfl p0 ?_
  refine j_iconst (v := 0) C dX12_keep__171 (by decide) ?_
  refine j_istore C dX12_keep__172 (by decide) rfl ?_
  exact j_vl (tX12_keep__174 C 2000 x1 x2 0 (hs h 45 s1.toNatClampNeg s0) hP hR) ⟨rfl, rfl, rfl, rfl, trivial⟩
def FX12_keep__63  (x1 : Int32) (x2 : Int32) (x3 : Int32) (h : ph_H) : Int32 × ph_H := if x2 = 1 then ((0, (hs (hs (hs (hs (hs h 44 x1.toNatClampNeg x2) 45 x1.toNatClampNeg 0) 46 x1.toNatClampNeg x3) 47 x1.toNatClampNeg (h 25 (((12 * (h 0 38)) + x3).toNatClampNeg))) 45 x1.toNatClampNeg (h 27 (((12 * (h 0 38)) + x3).toNatClampNeg))))) else (if x2 ≤ 1 then ((0, (hs (hs h 44 x1.toNatClampNeg x2) 45 x1.toNatClampNeg 0))) else (if x2 = 3 then (FX12_keep__170  x1 x2 12 x1 (hs (hs h 44 x1.toNatClampNeg x2) 45 x1.toNatClampNeg 0)) else (if 60 ≤ (h 0 38) then (FX12_keep__170  x1 x2 60 x1 (hs (hs h 44 x1.toNatClampNeg x2) 45 x1.toNatClampNeg 0)) else (FX12_keep__170  x1 x2 (h 0 38) x1 (hs (hs h 44 x1.toNatClampNeg x2) 45 x1.toNatClampNeg 0)))))
def PX12_keep__63  (x1 : Int32) (x2 : Int32) (x3 : Int32) (h : ph_H) : Prop := vp_in x1 8 ∧ (vp_in x1 8 ∧ ((x2 = 1 → (vp_in x1 8 ∧ (vp_in ((12 * (h 0 38)) + x3) 3612 ∧ (vp_in x1 8 ∧ (vp_in ((12 * (h 0 38)) + x3) 3612 ∧ (vp_in x1 8 ∧ (True))))))) ∧ (¬ x2 = 1 → ((x2 ≤ 1 → (True)) ∧ (¬ x2 ≤ 1 → ((x2 = 3 → (PX12_keep__170  x1 x2 12 x1 (hs (hs h 44 x1.toNatClampNeg x2) 45 x1.toNatClampNeg 0))) ∧ (¬ x2 = 3 → ((60 ≤ (h 0 38) → (PX12_keep__170  x1 x2 60 x1 (hs (hs h 44 x1.toNatClampNeg x2) 45 x1.toNatClampNeg 0))) ∧ (¬ 60 ≤ (h 0 38) → (PX12_keep__170  x1 x2 (h 0 38) x1 (hs (hs h 44 x1.toNatClampNeg x2) 45 x1.toNatClampNeg 0)))))))))))
set_option maxRecDepth 100000 in
set_option maxHeartbeats 4000000 in
theorem tX12_keep__63 {X : fj_X} {Y : fj_Y} {l0 : Launch} {ad : Nat → Nat} (C : FC X Y l0 cX12_keep_ 6 RX12 ({ frames := 1, cells := 0, slots := 0, locals := 25 } : Room) 0 0 (some .int)) (x1 : Int32) (x2 : Int32) (x3 : Int32) (h : ph_H) (hP : PX12_keep__63  x1 x2 x3 h) (hR : RETi X Y ad 50 SM cX12_keep_ (FX12_keep__63  x1 x2 x3 h)) : FJ X Y ad 50 SM h 63 [(0, .ref (ad 0)), (1, .int x1), (2, .int x2), (3, .int x3)] [] := by
  unfold PX12_keep__63 at hP
  unfold FX12_keep__63 at hR
  refine j_aload_n C dX12_keep__63 rfl rfl ?_
  refine gM_146 C dX12_keep__64 ?_
  refine j_iload_n C dX12_keep__67 rfl rfl ?_
  refine j_iload_n C dX12_keep__68 rfl rfl ?_
  obtain ⟨p4, hP⟩ := hP
  refine j_iast (k := 44) C dX12_keep__69 (by decide) rfl p4 ?_
  refine j_aload_n C dX12_keep__70 rfl rfl ?_
  refine gM_149 C dX12_keep__71 ?_
  refine j_iload_n C dX12_keep__74 rfl rfl ?_
  refine j_iconst (v := 0) C dX12_keep__75 (by decide) ?_
  obtain ⟨p10, hP⟩ := hP
  refine j_iast (k := 45) C dX12_keep__76 (by decide) rfl p10 ?_
  refine j_iload_n C dX12_keep__77 rfl rfl ?_
  refine j_iconst (v := 1) C dX12_keep__78 (by decide) ?_
  refine j_icmp_ne (tgt := 132) C dX12_keep__79 (by decide) (fun c0 => ?_) (fun c0 => ?_)
  · have hP := hP.2 c0
    rw [if_neg c0] at hR
    refine j_iload_n C dX12_keep__132 rfl rfl ?_
    refine j_iconst (v := 1) C dX12_keep__133 (by decide) ?_
    refine j_icmp_le (tgt := 253) C dX12_keep__134 (by decide) (fun c1 => ?_) (fun c1 => ?_)
    · have hP := hP.1 c1
      rw [if_pos c1] at hR
      refine j_iconst (v := 0) C dX12_keep__253 (by decide) ?_
      exact hR _ _ dX12_keep__254
    · have hP := hP.2 c1
      rw [if_neg c1] at hR
      refine j_aload_n C dX12_keep__137 rfl rfl ?_
      refine gM_149 C dX12_keep__138 ?_
      refine j_iload_n C dX12_keep__141 rfl rfl ?_
      refine j_iload_n C dX12_keep__142 rfl rfl ?_
      refine j_iconst (v := 3) C dX12_keep__143 (by decide) ?_
      refine j_icmp_ne (tgt := 152) C dX12_keep__144 (by decide) (fun c2 => ?_) (fun c2 => ?_)
      · have hP := hP.2 c2
        rw [if_neg c2] at hR
        refine j_aload_n C dX12_keep__152 rfl rfl ?_
        refine gM_304 (v := (h 0 38)) C dX12_keep__153 ((hz_k (by decide)).trans (hz_k (by decide))) ?_
        refine j_bipush (v := 60) C dX12_keep__156 (by decide) ?_
        refine j_icmp_ge (tgt := 168) C dX12_keep__158 (by decide) (fun c3 => ?_) (fun c3 => ?_)
        · have hP := hP.1 c3
          rw [if_pos c3] at hR
          refine j_bipush (v := 60) C dX12_keep__168 (by decide) ?_
          exact j_vl (tX12_keep__170 C  x1 x2 60 x1 (hs (hs h 44 x1.toNatClampNeg x2) 45 x1.toNatClampNeg 0) hP hR) ⟨rfl, rfl, rfl, trivial⟩
        · have hP := hP.2 c3
          rw [if_neg c3] at hR
          refine j_aload_n C dX12_keep__161 rfl rfl ?_
          refine gM_304 (v := (h 0 38)) C dX12_keep__162 ((hz_k (by decide)).trans (hz_k (by decide))) ?_
          refine j_goto (tgt := 170) C dX12_keep__165 (by decide) ?_
          exact j_vl (tX12_keep__170 C  x1 x2 (h 0 38) x1 (hs (hs h 44 x1.toNatClampNeg x2) 45 x1.toNatClampNeg 0) hP hR) ⟨rfl, rfl, rfl, trivial⟩
      · have hP := hP.1 c2
        rw [if_pos c2] at hR
        refine j_bipush (v := 12) C dX12_keep__147 (by decide) ?_
        refine j_goto (tgt := 170) C dX12_keep__149 (by decide) ?_
        exact j_vl (tX12_keep__170 C  x1 x2 12 x1 (hs (hs h 44 x1.toNatClampNeg x2) 45 x1.toNatClampNeg 0) hP hR) ⟨rfl, rfl, rfl, trivial⟩
  · have hP := hP.1 c0
    rw [if_pos c0] at hR
    refine j_aload_n C dX12_keep__82 rfl rfl ?_
    refine gM_152 C dX12_keep__83 ?_
    refine j_iload_n C dX12_keep__86 rfl rfl ?_
    refine j_iload_n C dX12_keep__87 rfl rfl ?_
    obtain ⟨p4, hP⟩ := hP
    refine j_iast (k := 46) C dX12_keep__88 (by decide) rfl p4 ?_
    refine j_aload_n C dX12_keep__89 rfl rfl ?_
    refine gM_155 C dX12_keep__90 ?_
    refine j_iload_n C dX12_keep__93 rfl rfl ?_
    refine j_aload_n C dX12_keep__94 rfl rfl ?_
    refine gM_83 C dX12_keep__95 ?_
    refine j_bipush (v := 12) C dX12_keep__98 (by decide) ?_
    refine j_aload_n C dX12_keep__100 rfl rfl ?_
    refine gM_304 (v := (h 0 38)) C dX12_keep__101 ((hz_k (by decide)).trans ((hz_k (by decide)).trans (hz_k (by decide)))) ?_
    refine j_imul C dX12_keep__104 ?_
    refine j_iload_n C dX12_keep__105 rfl rfl ?_
    refine j_iadd C dX12_keep__106 ?_
    obtain ⟨p17, hP⟩ := hP
    refine j_iald (k := 25) (v := (h 25 (((12 * (h 0 38)) + x3).toNatClampNeg))) C dX12_keep__107 (by decide) rfl p17 ((hz_k (by decide)).trans ((hz_k (by decide)).trans (hz_k (by decide)))) ?_
    obtain ⟨p19, hP⟩ := hP
    refine j_iast (k := 47) C dX12_keep__108 (by decide) rfl p19 ?_
    refine j_aload_n C dX12_keep__109 rfl rfl ?_
    refine gM_149 C dX12_keep__110 ?_
    refine j_iload_n C dX12_keep__113 rfl rfl ?_
    refine j_aload_n C dX12_keep__114 rfl rfl ?_
    refine gM_89 C dX12_keep__115 ?_
    refine j_bipush (v := 12) C dX12_keep__118 (by decide) ?_
    refine j_aload_n C dX12_keep__120 rfl rfl ?_
    refine gM_304 (v := (h 0 38)) C dX12_keep__121 ((hz_k (by decide)).trans ((hz_k (by decide)).trans ((hz_k (by decide)).trans (hz_k (by decide))))) ?_
    refine j_imul C dX12_keep__124 ?_
    refine j_iload_n C dX12_keep__125 rfl rfl ?_
    refine j_iadd C dX12_keep__126 ?_
    obtain ⟨p32, hP⟩ := hP
    refine j_iald (k := 27) (v := (h 27 (((12 * (h 0 38)) + x3).toNatClampNeg))) C dX12_keep__127 (by decide) rfl p32 ((hz_k (by decide)).trans ((hz_k (by decide)).trans ((hz_k (by decide)).trans (hz_k (by decide))))) ?_
    obtain ⟨p34, hP⟩ := hP
    refine j_iast (k := 45) C dX12_keep__128 (by decide) rfl p34 ?_
    refine j_goto (tgt := 253) C dX12_keep__129 (by decide) ?_
    refine j_iconst (v := 0) C dX12_keep__253 (by decide) ?_
    exact hR _ _ dX12_keep__254
def FX12_keep__35  (x1 : Int32) (x2 : Int32) (x3 : Int32) (h : ph_H) : Int32 × ph_H := if x2 = 1 then (if (FX12_isIn x3.toInt64 0 (((h 24 ((h 0 38).toNatClampNeg)) - 1).toInt64)) = 0 then (((-1), h)) else (FX12_keep__63  x1 x2 x3 h)) else (FX12_keep__63  x1 x2 x3 h)
def PX12_keep__35  (x1 : Int32) (x2 : Int32) (x3 : Int32) (h : ph_H) : Prop := (x2 = 1 → (vp_in (h 0 38) 301 ∧ ((PX12_isIn x3.toInt64 0 (((h 24 ((h 0 38).toNatClampNeg)) - 1).toInt64)) ∧ (((FX12_isIn x3.toInt64 0 (((h 24 ((h 0 38).toNatClampNeg)) - 1).toInt64)) = 0 → (True)) ∧ (¬ (FX12_isIn x3.toInt64 0 (((h 24 ((h 0 38).toNatClampNeg)) - 1).toInt64)) = 0 → (PX12_keep__63  x1 x2 x3 h)))))) ∧ (¬ x2 = 1 → (PX12_keep__63  x1 x2 x3 h))
set_option maxRecDepth 100000 in
set_option maxHeartbeats 4000000 in
theorem tX12_keep__35 {X : fj_X} {Y : fj_Y} {l0 : Launch} {ad : Nat → Nat} (C : FC X Y l0 cX12_keep_ 6 RX12 ({ frames := 1, cells := 0, slots := 0, locals := 25 } : Room) 0 0 (some .int)) (x1 : Int32) (x2 : Int32) (x3 : Int32) (h : ph_H) (hP : PX12_keep__35  x1 x2 x3 h) (hR : RETi X Y ad 50 SM cX12_keep_ (FX12_keep__35  x1 x2 x3 h)) : FJ X Y ad 50 SM h 35 [(0, .ref (ad 0)), (1, .int x1), (2, .int x2), (3, .int x3)] [] := by
  unfold PX12_keep__35 at hP
  unfold FX12_keep__35 at hR
  refine j_iload_n C dX12_keep__35 rfl rfl ?_
  refine j_iconst (v := 1) C dX12_keep__36 (by decide) ?_
  refine j_icmp_ne (tgt := 63) C dX12_keep__37 (by decide) (fun c0 => ?_) (fun c0 => ?_)
  · have hP := hP.2 c0
    rw [if_neg c0] at hR
    exact j_vl (tX12_keep__63 C  x1 x2 x3 h hP hR) ⟨rfl, rfl, rfl, rfl, trivial⟩
  · have hP := hP.1 c0
    rw [if_pos c0] at hR
    refine j_iload_n C dX12_keep__40 rfl rfl ?_
    refine j_i2l C dX12_keep__41 ?_
    refine j_lconst (v := 0) C dX12_keep__42 (by decide) ?_
    refine j_aload_n C dX12_keep__43 rfl rfl ?_
    refine gM_80 C dX12_keep__44 ?_
    refine j_aload_n C dX12_keep__47 rfl rfl ?_
    refine gM_304 (v := (h 0 38)) C dX12_keep__48 rfl ?_
    obtain ⟨p7, hP⟩ := hP
    refine j_iald (k := 24) (v := (h 24 ((h 0 38).toNatClampNeg))) C dX12_keep__51 (by decide) rfl p7 rfl ?_
    refine j_iconst (v := 1) C dX12_keep__52 (by decide) ?_
    refine j_isub C dX12_keep__53 ?_
    refine j_i2l C dX12_keep__54 ?_
    obtain ⟨p12, hP⟩ := hP
    refine j_callS C (MX12_isIn x3.toInt64 0 (((h 24 ((h 0 38).toNatClampNeg)) - 1).toInt64) h p12) dX12_keep__55 (CKX12_isIn (by decide)) ⟨rfl, rfl⟩ lk_RX12_169 st_X12_isIn rfl (Nat.le_of_ble_eq_true rfl) ?_
    intro r S' h' hq
    obtain ⟨rfl, hh, rfl, hb14⟩ := hq
    rw [hh]
    refine j_if_ne (tgt := 63) C dX12_keep__58 (by decide) (fun c1 => ?_) (fun c1 => ?_)
    · have hP := hP.2 c1
      rw [if_neg c1] at hR
      exact j_vl (tX12_keep__63 C  x1 x2 x3 h hP hR) ⟨rfl, rfl, rfl, rfl, trivial⟩
    · have hP := hP.1 c1
      rw [if_pos c1] at hR
      refine j_iconst (v := (-1)) C dX12_keep__61 (by decide) ?_
      exact hR _ _ dX12_keep__62
def FX12_keep_ (a0 : Int32) (a1 : Int32) (a2 : Int32) (h : ph_H) : Int32 × ph_H := if (FX12_isShelf a0) = 0 then (((-1), (hs h 0 0 0))) else (if (FX12_isIn a1.toInt64 0 3) = 0 then (((-1), (hs h 0 0 0))) else (if a1 ≤ 0 then (FX12_keep__35  a0 a1 a2 (hs h 0 0 0)) else (if (h 0 36) = 0 then (((-1), (hs h 0 0 0))) else (FX12_keep__35  a0 a1 a2 (hs h 0 0 0)))))
def PX12_keep_ (a0 : Int32) (a1 : Int32) (a2 : Int32) (h : ph_H) : Prop := (PX12_isShelf a0) ∧ (((FX12_isShelf a0) = 0 → (True)) ∧ (¬ (FX12_isShelf a0) = 0 → ((PX12_isIn a1.toInt64 0 3) ∧ (((FX12_isIn a1.toInt64 0 3) = 0 → (True)) ∧ (¬ (FX12_isIn a1.toInt64 0 3) = 0 → ((a1 ≤ 0 → (PX12_keep__35  a0 a1 a2 (hs h 0 0 0))) ∧ (¬ a1 ≤ 0 → (((h 0 36) = 0 → (True)) ∧ (¬ (h 0 36) = 0 → (PX12_keep__35  a0 a1 a2 (hs h 0 0 0)))))))))))
set_option maxRecDepth 100000 in
set_option maxHeartbeats 4000000 in
theorem tX12_keep_ {X : fj_X} {Y : fj_Y} {l0 : Launch} {ad : Nat → Nat} (C : FC X Y l0 cX12_keep_ 6 RX12 ({ frames := 1, cells := 0, slots := 0, locals := 25 } : Room) 0 0 (some .int)) (a0 : Int32) (a1 : Int32) (a2 : Int32) (h : ph_H) (hP : PX12_keep_ a0 a1 a2 h) (hR : RETi X Y ad 50 SM cX12_keep_ (FX12_keep_ a0 a1 a2 h)) : FJ X Y ad 50 SM h 0 [(0, .ref (ad 0)), (1, .int a0), (2, .int a1), (3, .int a2)] [] := by
  unfold PX12_keep_ at hP
  unfold FX12_keep_ at hR
  refine j_aload_n C dX12_keep__0 rfl rfl ?_
  refine j_iconst (v := 0) C dX12_keep__1 (by decide) ?_
  refine pM_164 C dX12_keep__2 ?_
  refine j_iload_n C dX12_keep__5 rfl rfl ?_
  obtain ⟨p4, hP⟩ := hP
  refine j_callS C (MX12_isShelf a0 (hs h 0 0 0) p4) dX12_keep__6 (CKX12_isShelf (by decide)) ⟨rfl, rfl⟩ lk_RX12_374 st_X12_isShelf rfl (Nat.le_of_ble_eq_true rfl) ?_
  intro r S' h' hq
  obtain ⟨rfl, hh, rfl, hb6⟩ := hq
  rw [hh]
  refine j_if_eq (tgt := 61) C dX12_keep__9 (by decide) (fun c0 => ?_) (fun c0 => ?_)
  · have hP := hP.1 c0
    rw [if_pos c0] at hR
    refine j_iconst (v := (-1)) C dX12_keep__61 (by decide) ?_
    exact hR _ _ dX12_keep__62
  · have hP := hP.2 c0
    rw [if_neg c0] at hR
    refine j_iload_n C dX12_keep__12 rfl rfl ?_
    refine j_i2l C dX12_keep__13 ?_
    refine j_lconst (v := 0) C dX12_keep__14 (by decide) ?_
    refine j_ldc2 (v := 3) C dX12_keep__15 kl_RX12_167 ?_
    obtain ⟨p4, hP⟩ := hP
    refine j_callS C (MX12_isIn a1.toInt64 0 3 (hs h 0 0 0) p4) dX12_keep__18 (CKX12_isIn (by decide)) ⟨rfl, rfl⟩ lk_RX12_169 st_X12_isIn rfl (Nat.le_of_ble_eq_true rfl) ?_
    intro r S' h' hq
    obtain ⟨rfl, hh, rfl, hb6⟩ := hq
    rw [hh]
    refine j_if_eq (tgt := 61) C dX12_keep__21 (by decide) (fun c1 => ?_) (fun c1 => ?_)
    · have hP := hP.1 c1
      rw [if_pos c1] at hR
      refine j_iconst (v := (-1)) C dX12_keep__61 (by decide) ?_
      exact hR _ _ dX12_keep__62
    · have hP := hP.2 c1
      rw [if_neg c1] at hR
      refine j_iload_n C dX12_keep__24 rfl rfl ?_
      refine j_if_le (tgt := 35) C dX12_keep__25 (by decide) (fun c2 => ?_) (fun c2 => ?_)
      · have hP := hP.1 c2
        rw [if_pos c2] at hR
        exact j_vl (tX12_keep__35 C  a0 a1 a2 (hs h 0 0 0) hP hR) ⟨rfl, rfl, rfl, rfl, trivial⟩
      · have hP := hP.2 c2
        rw [if_neg c2] at hR
        refine j_aload_n C dX12_keep__28 rfl rfl ?_
        refine gM_294 (v := (h 0 36)) C dX12_keep__29 (hz_i (by decide)) ?_
        refine j_if_eq (tgt := 61) C dX12_keep__32 (by decide) (fun c3 => ?_) (fun c3 => ?_)
        · have hP := hP.1 c3
          rw [if_pos c3] at hR
          refine j_iconst (v := (-1)) C dX12_keep__61 (by decide) ?_
          exact hR _ _ dX12_keep__62
        · have hP := hP.2 c3
          rw [if_neg c3] at hR
          exact j_vl (tX12_keep__35 C  a0 a1 a2 (hs h 0 0 0) hP hR) ⟨rfl, rfl, rfl, rfl, trivial⟩
theorem MX12_keep_ {l0 : Launch} {Y : fj_Y} {ad : Nat → Nat} (a0 : Int32) (a1 : Int32) (a2 : Int32) (h : ph_H) (hP : PX12_keep_ a0 a1 a2 h) : MI l0 yX12_keep_ cX12_keep_ 6 (some .int) ({ frames := 1, cells := 0, slots := 0, locals := 25 } : Room) Y ad 50 SM h [.ref (ad 0), .int a0, .int a1, .int a2] (fun r S' h' => S' = SM ∧ h' = (FX12_keep_ a0 a1 a2 h).2 ∧ r = (FX12_keep_ a0 a1 a2 h).1) := met_i (by decide) (Nat.le_of_ble_eq_true rfl) (fun _ _ _ _ => rfl) (fun X C K => j_vl (tX12_keep_ C a0 a1 a2 h hP (fun pc lv hd => K _ _ _ ⟨rfl, rfl, rfl⟩ pc lv hd)) ⟨rfl, rfl, rfl, rfl, trivial⟩)

-- X12_make
def FX12_make_58  : Nat → Int32 → Int32 → Int32 → ph_H → Int32 × ph_H
  | 0, _, _, _, h => (0, h)
  | q + 1, x1, x3, x4, h => if x3 ≤ x4 then ((0, h)) else (FX12_make_58  q x1 x3 (x4 + 1) (hs h 48 ((60 * x1) + x4).toNatClampNeg 0))
def PX12_make_58  : Nat → Int32 → Int32 → Int32 → ph_H → Prop
  | 0, _, _, _, _ => False
  | q + 1, x1, x3, x4, h => (x3 ≤ x4 → (True)) ∧ (¬ x3 ≤ x4 → (vp_in ((60 * x1) + x4) 480 ∧ (PX12_make_58  q x1 x3 (x4 + 1) (hs h 48 ((60 * x1) + x4).toNatClampNeg 0))))
set_option maxRecDepth 100000 in
set_option maxHeartbeats 4000000 in
theorem tX12_make_58 {X : fj_X} {Y : fj_Y} {l0 : Launch} {ad : Nat → Nat} (C : FC X Y l0 cX12_make 5 RX12 ({ frames := 1, cells := 0, slots := 0, locals := 25 } : Room) 0 0 (some .int)) : ∀ (q : Nat) (x1 : Int32) (x3 : Int32) (x4 : Int32) (h : ph_H), PX12_make_58  q x1 x3 x4 h → RETi X Y ad 50 SM cX12_make (FX12_make_58  q x1 x3 x4 h) → FJ X Y ad 50 SM h 58 [(0, .ref (ad 0)), (1, .int x1), (3, .int x3), (4, .int x4)] [] := by
  intro q
  induction q with
  | zero =>
    intro x1 x3 x4 h hP hR
    exact absurd hP id
  | succ q ih =>
    intro x1 x3 x4 h hP hR
    unfold PX12_make_58 at hP
    unfold FX12_make_58 at hR
    refine j_iload C dX12_make_58 rfl ?_
    refine j_iload_n C dX12_make_60 rfl rfl ?_
    refine j_icmp_ge (tgt := 83) C dX12_make_61 (by decide) (fun c0 => ?_) (fun c0 => ?_)
    · have hP := hP.1 c0
      rw [if_pos c0] at hR
      refine j_iconst (v := 0) C dX12_make_83 (by decide) ?_
      exact hR _ _ dX12_make_84
    · have hP := hP.2 c0
      rw [if_neg c0] at hR
      refine j_aload_n C dX12_make_64 rfl rfl ?_
      refine gM_158 C dX12_make_65 ?_
      refine j_bipush (v := 60) C dX12_make_68 (by decide) ?_
      refine j_iload_n C dX12_make_70 rfl rfl ?_
      refine j_imul C dX12_make_71 ?_
      refine j_iload C dX12_make_72 rfl ?_
      refine j_iadd C dX12_make_74 ?_
      refine j_iconst (v := 0) C dX12_make_75 (by decide) ?_
      obtain ⟨p8, hP⟩ := hP
      refine j_iast (k := 48) C dX12_make_76 (by decide) rfl p8 ?_
      refine j_iinc (v := (x4 + 1)) C dX12_make_77 rfl rfl (by decide) rfl ?_
      refine j_goto (tgt := 58) C dX12_make_80 (by decide) ?_
      exact j_vl (ih x1 x3 (x4 + 1) (hs h 48 ((60 * x1) + x4).toNatClampNeg 0) hP hR) ⟨rfl, rfl, rfl, rfl, trivial⟩
def FX12_make (a0 : Int32) (a1 : Int32) (a2 : Int32) (h : ph_H) : Int32 × ph_H := if (FX12_isShelf a0) = 0 then (((-1), (hs h 0 0 0))) else (if (FX12_isIn a1.toInt64 2 3) = 0 then (((-1), (hs h 0 0 0))) else (if a2 ≤ 60 then (if 0 ≤ a2 then (FX12_make_58 2000 a0 a2 0 (hs (hs (hs h 0 0 0) 44 a0.toNatClampNeg a1) 45 a0.toNatClampNeg a2)) else (((-14), (hs h 0 0 0)))) else (((-1), (hs h 0 0 0)))))
def PX12_make (a0 : Int32) (a1 : Int32) (a2 : Int32) (h : ph_H) : Prop := (PX12_isShelf a0) ∧ (((FX12_isShelf a0) = 0 → (True)) ∧ (¬ (FX12_isShelf a0) = 0 → ((PX12_isIn a1.toInt64 2 3) ∧ (((FX12_isIn a1.toInt64 2 3) = 0 → (True)) ∧ (¬ (FX12_isIn a1.toInt64 2 3) = 0 → ((a2 ≤ 60 → ((0 ≤ a2 → (vp_in a0 8 ∧ (vp_in a0 8 ∧ (PX12_make_58 2000 a0 a2 0 (hs (hs (hs h 0 0 0) 44 a0.toNatClampNeg a1) 45 a0.toNatClampNeg a2))))) ∧ (¬ 0 ≤ a2 → (True)))) ∧ (¬ a2 ≤ 60 → (True))))))))
set_option maxRecDepth 100000 in
set_option maxHeartbeats 4000000 in
theorem tX12_make {X : fj_X} {Y : fj_Y} {l0 : Launch} {ad : Nat → Nat} (C : FC X Y l0 cX12_make 5 RX12 ({ frames := 1, cells := 0, slots := 0, locals := 25 } : Room) 0 0 (some .int)) (a0 : Int32) (a1 : Int32) (a2 : Int32) (h : ph_H) (hP : PX12_make a0 a1 a2 h) (hR : RETi X Y ad 50 SM cX12_make (FX12_make a0 a1 a2 h)) : FJ X Y ad 50 SM h 0 [(0, .ref (ad 0)), (1, .int a0), (2, .int a1), (3, .int a2)] [] := by
  unfold PX12_make at hP
  unfold FX12_make at hR
  refine j_aload_n C dX12_make_0 rfl rfl ?_
  refine j_iconst (v := 0) C dX12_make_1 (by decide) ?_
  refine pM_164 C dX12_make_2 ?_
  refine j_iload_n C dX12_make_5 rfl rfl ?_
  obtain ⟨p4, hP⟩ := hP
  refine j_callS C (MX12_isShelf a0 (hs h 0 0 0) p4) dX12_make_6 (CKX12_isShelf (by decide)) ⟨rfl, rfl⟩ lk_RX12_374 st_X12_isShelf rfl (Nat.le_of_ble_eq_true rfl) ?_
  intro r S' h' hq
  obtain ⟨rfl, hh, rfl, hb6⟩ := hq
  rw [hh]
  refine j_if_eq (tgt := 32) C dX12_make_9 (by decide) (fun c0 => ?_) (fun c0 => ?_)
  · have hP := hP.1 c0
    rw [if_pos c0] at hR
    refine j_iconst (v := (-1)) C dX12_make_32 (by decide) ?_
    exact hR _ _ dX12_make_33
  · have hP := hP.2 c0
    rw [if_neg c0] at hR
    refine j_iload_n C dX12_make_12 rfl rfl ?_
    refine j_i2l C dX12_make_13 ?_
    refine j_ldc2 (v := 2) C dX12_make_14 kl_RX12_325 ?_
    refine j_ldc2 (v := 3) C dX12_make_17 kl_RX12_167 ?_
    obtain ⟨p4, hP⟩ := hP
    refine j_callS C (MX12_isIn a1.toInt64 2 3 (hs h 0 0 0) p4) dX12_make_20 (CKX12_isIn (by decide)) ⟨rfl, rfl⟩ lk_RX12_169 st_X12_isIn rfl (Nat.le_of_ble_eq_true rfl) ?_
    intro r S' h' hq
    obtain ⟨rfl, hh, rfl, hb6⟩ := hq
    rw [hh]
    refine j_if_eq (tgt := 32) C dX12_make_23 (by decide) (fun c1 => ?_) (fun c1 => ?_)
    · have hP := hP.1 c1
      rw [if_pos c1] at hR
      refine j_iconst (v := (-1)) C dX12_make_32 (by decide) ?_
      exact hR _ _ dX12_make_33
    · have hP := hP.2 c1
      rw [if_neg c1] at hR
      refine j_iload_n C dX12_make_26 rfl rfl ?_
      refine j_bipush (v := 60) C dX12_make_27 (by decide) ?_
      refine j_icmp_le (tgt := 34) C dX12_make_29 (by decide) (fun c2 => ?_) (fun c2 => ?_)
      · have hP := hP.1 c2
        rw [if_pos c2] at hR
        refine j_iload_n C dX12_make_34 rfl rfl ?_
        refine j_if_ge (tgt := 41) C dX12_make_35 (by decide) (fun c3 => ?_) (fun c3 => ?_)
        · have hP := hP.1 c3
          rw [if_pos c3] at hR
          refine j_aload_n C dX12_make_41 rfl rfl ?_
          refine gM_146 C dX12_make_42 ?_
          refine j_iload_n C dX12_make_45 rfl rfl ?_
          refine j_iload_n C dX12_make_46 rfl rfl ?_
          obtain ⟨p4, hP⟩ := hP
          refine j_iast (k := 44) C dX12_make_47 (by decide) rfl p4 ?_
          refine j_aload_n C dX12_make_48 rfl rfl ?_
          refine gM_149 C dX12_make_49 ?_
          refine j_iload_n C dX12_make_52 rfl rfl ?_
          refine j_iload_n C dX12_make_53 rfl rfl ?_
          obtain ⟨p10, hP⟩ := hP
          refine j_iast (k := 45) C dX12_make_54 (by decide) rfl p10 ?_
          refine j_iconst (v := 0) C dX12_make_55 (by decide) ?_
          refine j_istore C dX12_make_56 (by decide) rfl ?_
          exact j_vl (tX12_make_58 C 2000 a0 a2 0 (hs (hs (hs h 0 0 0) 44 a0.toNatClampNeg a1) 45 a0.toNatClampNeg a2) hP hR) ⟨rfl, rfl, rfl, rfl, trivial⟩
        · have hP := hP.2 c3
          rw [if_neg c3] at hR
          refine j_bipush (v := (-14)) C dX12_make_38 (by decide) ?_
          exact hR _ _ dX12_make_40
      · have hP := hP.2 c2
        rw [if_neg c2] at hR
        refine j_iconst (v := (-1)) C dX12_make_32 (by decide) ?_
        exact hR _ _ dX12_make_33
theorem MX12_make {l0 : Launch} {Y : fj_Y} {ad : Nat → Nat} (a0 : Int32) (a1 : Int32) (a2 : Int32) (h : ph_H) (hP : PX12_make a0 a1 a2 h) : MI l0 yX12_make cX12_make 5 (some .int) ({ frames := 1, cells := 0, slots := 0, locals := 25 } : Room) Y ad 50 SM h [.ref (ad 0), .int a0, .int a1, .int a2] (fun r S' h' => S' = SM ∧ h' = (FX12_make a0 a1 a2 h).2 ∧ r = (FX12_make a0 a1 a2 h).1) := met_i (by decide) (Nat.le_of_ble_eq_true rfl) (fun _ _ _ _ => rfl) (fun X C K => j_vl (tX12_make C a0 a1 a2 h hP (fun pc lv hd => K _ _ _ ⟨rfl, rfl, rfl⟩ pc lv hd)) ⟨rfl, rfl, rfl, rfl, trivial⟩)

-- X12_element
def FX12_element_62  (x1 : Int32) (x2 : Int32) (x3 : Int32) (s0 : Int32) (h : ph_H) : Int32 × ph_H := if x3 = 0 then ((0, (hs h 0 0 s0))) else (((h 48 (((60 * x1) + x2).toNatClampNeg)), (hs h 0 0 s0)))
def PX12_element_62  (x1 : Int32) (x2 : Int32) (x3 : Int32) (s0 : Int32) (h : ph_H) : Prop := (x3 = 0 → (True)) ∧ (¬ x3 = 0 → (vp_in ((60 * x1) + x2) 480 ∧ (True)))
set_option maxRecDepth 100000 in
set_option maxHeartbeats 4000000 in
theorem tX12_element_62 {X : fj_X} {Y : fj_Y} {l0 : Launch} {ad : Nat → Nat} (C : FC X Y l0 cX12_element 4 RX12 ({ frames := 1, cells := 0, slots := 0, locals := 25 } : Room) 0 0 (some .int)) (x1 : Int32) (x2 : Int32) (x3 : Int32) (s0 : Int32) (h : ph_H) (hP : PX12_element_62  x1 x2 x3 s0 h) (hR : RETi X Y ad 50 SM cX12_element (FX12_element_62  x1 x2 x3 s0 h)) : FJ X Y ad 50 SM h 62 [(0, .ref (ad 0)), (1, .int x1), (2, .int x2), (3, .int x3)] [.int s0, .ref (ad 0)] := by
  unfold PX12_element_62 at hP
  unfold FX12_element_62 at hR
  refine pM_164 C dX12_element_62 ?_
  refine j_iload_n C dX12_element_65 rfl rfl ?_
  refine j_if_eq (tgt := 83) C dX12_element_66 (by decide) (fun c0 => ?_) (fun c0 => ?_)
  · have hP := hP.1 c0
    rw [if_pos c0] at hR
    refine j_iconst (v := 0) C dX12_element_83 (by decide) ?_
    exact hR _ _ dX12_element_84
  · have hP := hP.2 c0
    rw [if_neg c0] at hR
    refine j_aload_n C dX12_element_69 rfl rfl ?_
    refine gM_158 C dX12_element_70 ?_
    refine j_bipush (v := 60) C dX12_element_73 (by decide) ?_
    refine j_iload_n C dX12_element_75 rfl rfl ?_
    refine j_imul C dX12_element_76 ?_
    refine j_iload_n C dX12_element_77 rfl rfl ?_
    refine j_iadd C dX12_element_78 ?_
    obtain ⟨p7, hP⟩ := hP
    refine j_iald (k := 48) (v := (h 48 (((60 * x1) + x2).toNatClampNeg))) C dX12_element_79 (by decide) rfl p7 (hz_k (by decide)) ?_
    refine j_goto (tgt := 84) C dX12_element_80 (by decide) ?_
    exact hR _ _ dX12_element_84
def FX12_element_40  (x1 : Int32) (x2 : Int32) (s0 : Int32) (h : ph_H) : Int32 × ph_H := if (FX12_isShelf x1) = 0 then (FX12_element_62  x1 x2 s0 1 h) else (if s0 = 0 then (FX12_element_62  x1 x2 s0 2 h) else (FX12_element_62  x1 x2 s0 0 h))
def PX12_element_40  (x1 : Int32) (x2 : Int32) (s0 : Int32) (h : ph_H) : Prop := (PX12_isShelf x1) ∧ (((FX12_isShelf x1) = 0 → (PX12_element_62  x1 x2 s0 1 h)) ∧ (¬ (FX12_isShelf x1) = 0 → ((s0 = 0 → (PX12_element_62  x1 x2 s0 2 h)) ∧ (¬ s0 = 0 → (PX12_element_62  x1 x2 s0 0 h)))))
set_option maxRecDepth 100000 in
set_option maxHeartbeats 4000000 in
theorem tX12_element_40 {X : fj_X} {Y : fj_Y} {l0 : Launch} {ad : Nat → Nat} (C : FC X Y l0 cX12_element 4 RX12 ({ frames := 1, cells := 0, slots := 0, locals := 25 } : Room) 0 0 (some .int)) (x1 : Int32) (x2 : Int32) (s0 : Int32) (h : ph_H) (hP : PX12_element_40  x1 x2 s0 h) (hR : RETi X Y ad 50 SM cX12_element (FX12_element_40  x1 x2 s0 h)) : FJ X Y ad 50 SM h 40 [(0, .ref (ad 0)), (1, .int x1), (2, .int x2)] [.int s0] := by
  unfold PX12_element_40 at hP
  unfold FX12_element_40 at hR
  refine j_istore_n C dX12_element_40 rfl (by decide) rfl ?_
  refine j_aload_n C dX12_element_41 rfl rfl ?_
  refine j_iload_n C dX12_element_42 rfl rfl ?_
  obtain ⟨p3, hP⟩ := hP
  refine j_callS C (MX12_isShelf x1 h p3) dX12_element_43 (CKX12_isShelf (by decide)) ⟨rfl, rfl⟩ lk_RX12_374 st_X12_isShelf rfl (Nat.le_of_ble_eq_true rfl) ?_
  intro r S' h' hq
  obtain ⟨rfl, hh, rfl, hb5⟩ := hq
  rw [hh]
  refine j_if_ne (tgt := 53) C dX12_element_46 (by decide) (fun c0 => ?_) (fun c0 => ?_)
  · have hP := hP.2 c0
    rw [if_neg c0] at hR
    refine j_iload_n C dX12_element_53 rfl rfl ?_
    refine j_if_eq (tgt := 61) C dX12_element_54 (by decide) (fun c1 => ?_) (fun c1 => ?_)
    · have hP := hP.1 c1
      rw [if_pos c1] at hR
      refine j_iconst (v := 2) C dX12_element_61 (by decide) ?_
      exact j_vl (tX12_element_62 C  x1 x2 s0 2 h hP hR) ⟨rfl, rfl, rfl, rfl, trivial⟩
    · have hP := hP.2 c1
      rw [if_neg c1] at hR
      refine j_iconst (v := 0) C dX12_element_57 (by decide) ?_
      refine j_goto (tgt := 62) C dX12_element_58 (by decide) ?_
      exact j_vl (tX12_element_62 C  x1 x2 s0 0 h hP hR) ⟨rfl, rfl, rfl, rfl, trivial⟩
  · have hP := hP.1 c0
    rw [if_pos c0] at hR
    refine j_iconst (v := 1) C dX12_element_49 (by decide) ?_
    refine j_goto (tgt := 62) C dX12_element_50 (by decide) ?_
    exact j_vl (tX12_element_62 C  x1 x2 s0 1 h hP hR) ⟨rfl, rfl, rfl, rfl, trivial⟩
def FX12_element_39  (x1 : Int32) (x2 : Int32) (h : ph_H) : Int32 × ph_H := FX12_element_40  x1 x2 0 h
def PX12_element_39  (x1 : Int32) (x2 : Int32) (h : ph_H) : Prop := PX12_element_40  x1 x2 0 h
set_option maxRecDepth 100000 in
set_option maxHeartbeats 4000000 in
theorem tX12_element_39 {X : fj_X} {Y : fj_Y} {l0 : Launch} {ad : Nat → Nat} (C : FC X Y l0 cX12_element 4 RX12 ({ frames := 1, cells := 0, slots := 0, locals := 25 } : Room) 0 0 (some .int)) (x1 : Int32) (x2 : Int32) (h : ph_H) (hP : PX12_element_39  x1 x2 h) (hR : RETi X Y ad 50 SM cX12_element (FX12_element_39  x1 x2 h)) : FJ X Y ad 50 SM h 39 [(0, .ref (ad 0)), (1, .int x1), (2, .int x2)] [] := by
  unfold PX12_element_39 at hP
  unfold FX12_element_39 at hR
  refine j_iconst (v := 0) C dX12_element_39 (by decide) ?_
  exact j_vl (tX12_element_40 C  x1 x2 0 h hP hR) ⟨rfl, rfl, rfl, trivial⟩
def FX12_element (a0 : Int32) (a1 : Int32) (h : ph_H) : Int32 × ph_H := if (FX12_isShelf a0) = 0 then (FX12_element_39  a0 a1 h) else (if (h 44 (a0.toNatClampNeg)) ≤ 1 then (FX12_element_39  a0 a1 h) else (if (FX12_isIn a1.toInt64 0 (((h 45 (a0.toNatClampNeg)) - 1).toInt64)) = 0 then (FX12_element_39  a0 a1 h) else (FX12_element_40  a0 a1 1 h)))
def PX12_element (a0 : Int32) (a1 : Int32) (h : ph_H) : Prop := (PX12_isShelf a0) ∧ (((FX12_isShelf a0) = 0 → (PX12_element_39  a0 a1 h)) ∧ (¬ (FX12_isShelf a0) = 0 → (vp_in a0 8 ∧ (((h 44 (a0.toNatClampNeg)) ≤ 1 → (PX12_element_39  a0 a1 h)) ∧ (¬ (h 44 (a0.toNatClampNeg)) ≤ 1 → (vp_in a0 8 ∧ ((PX12_isIn a1.toInt64 0 (((h 45 (a0.toNatClampNeg)) - 1).toInt64)) ∧ (((FX12_isIn a1.toInt64 0 (((h 45 (a0.toNatClampNeg)) - 1).toInt64)) = 0 → (PX12_element_39  a0 a1 h)) ∧ (¬ (FX12_isIn a1.toInt64 0 (((h 45 (a0.toNatClampNeg)) - 1).toInt64)) = 0 → (PX12_element_40  a0 a1 1 h))))))))))
set_option maxRecDepth 100000 in
set_option maxHeartbeats 4000000 in
theorem tX12_element {X : fj_X} {Y : fj_Y} {l0 : Launch} {ad : Nat → Nat} (C : FC X Y l0 cX12_element 4 RX12 ({ frames := 1, cells := 0, slots := 0, locals := 25 } : Room) 0 0 (some .int)) (a0 : Int32) (a1 : Int32) (h : ph_H) (hP : PX12_element a0 a1 h) (hR : RETi X Y ad 50 SM cX12_element (FX12_element a0 a1 h)) : FJ X Y ad 50 SM h 0 [(0, .ref (ad 0)), (1, .int a0), (2, .int a1)] [] := by
  unfold PX12_element at hP
  unfold FX12_element at hR
  refine j_iload_n C dX12_element_0 rfl rfl ?_
  obtain ⟨p1, hP⟩ := hP
  refine j_callS C (MX12_isShelf a0 h p1) dX12_element_1 (CKX12_isShelf (by decide)) ⟨rfl, rfl⟩ lk_RX12_374 st_X12_isShelf rfl (Nat.le_of_ble_eq_true rfl) ?_
  intro r S' h' hq
  obtain ⟨rfl, hh, rfl, hb3⟩ := hq
  rw [hh]
  refine j_if_eq (tgt := 39) C dX12_element_4 (by decide) (fun c0 => ?_) (fun c0 => ?_)
  · have hP := hP.1 c0
    rw [if_pos c0] at hR
    exact j_vl (tX12_element_39 C  a0 a1 h hP hR) ⟨rfl, rfl, rfl, trivial⟩
  · have hP := hP.2 c0
    rw [if_neg c0] at hR
    refine j_aload_n C dX12_element_7 rfl rfl ?_
    refine gM_146 C dX12_element_8 ?_
    refine j_iload_n C dX12_element_11 rfl rfl ?_
    obtain ⟨p3, hP⟩ := hP
    refine j_iald (k := 44) (v := (h 44 (a0.toNatClampNeg))) C dX12_element_12 (by decide) rfl p3 rfl ?_
    refine j_iconst (v := 1) C dX12_element_13 (by decide) ?_
    refine j_icmp_le (tgt := 39) C dX12_element_14 (by decide) (fun c1 => ?_) (fun c1 => ?_)
    · have hP := hP.1 c1
      rw [if_pos c1] at hR
      exact j_vl (tX12_element_39 C  a0 a1 h hP hR) ⟨rfl, rfl, rfl, trivial⟩
    · have hP := hP.2 c1
      rw [if_neg c1] at hR
      refine j_iload_n C dX12_element_17 rfl rfl ?_
      refine j_i2l C dX12_element_18 ?_
      refine j_lconst (v := 0) C dX12_element_19 (by decide) ?_
      refine j_aload_n C dX12_element_20 rfl rfl ?_
      refine gM_149 C dX12_element_21 ?_
      refine j_iload_n C dX12_element_24 rfl rfl ?_
      obtain ⟨p6, hP⟩ := hP
      refine j_iald (k := 45) (v := (h 45 (a0.toNatClampNeg))) C dX12_element_25 (by decide) rfl p6 rfl ?_
      refine j_iconst (v := 1) C dX12_element_26 (by decide) ?_
      refine j_isub C dX12_element_27 ?_
      refine j_i2l C dX12_element_28 ?_
      obtain ⟨p11, hP⟩ := hP
      refine j_callS C (MX12_isIn a1.toInt64 0 (((h 45 (a0.toNatClampNeg)) - 1).toInt64) h p11) dX12_element_29 (CKX12_isIn (by decide)) ⟨rfl, rfl⟩ lk_RX12_169 st_X12_isIn rfl (Nat.le_of_ble_eq_true rfl) ?_
      intro r S' h' hq
      obtain ⟨rfl, hh, rfl, hb13⟩ := hq
      rw [hh]
      refine j_if_eq (tgt := 39) C dX12_element_32 (by decide) (fun c2 => ?_) (fun c2 => ?_)
      · have hP := hP.1 c2
        rw [if_pos c2] at hR
        exact j_vl (tX12_element_39 C  a0 a1 h hP hR) ⟨rfl, rfl, rfl, trivial⟩
      · have hP := hP.2 c2
        rw [if_neg c2] at hR
        refine j_iconst (v := 1) C dX12_element_35 (by decide) ?_
        refine j_goto (tgt := 40) C dX12_element_36 (by decide) ?_
        exact j_vl (tX12_element_40 C  a0 a1 1 h hP hR) ⟨rfl, rfl, rfl, trivial⟩
theorem MX12_element {l0 : Launch} {Y : fj_Y} {ad : Nat → Nat} (a0 : Int32) (a1 : Int32) (h : ph_H) (hP : PX12_element a0 a1 h) : MI l0 yX12_element cX12_element 4 (some .int) ({ frames := 1, cells := 0, slots := 0, locals := 25 } : Room) Y ad 50 SM h [.ref (ad 0), .int a0, .int a1] (fun r S' h' => S' = SM ∧ h' = (FX12_element a0 a1 h).2 ∧ r = (FX12_element a0 a1 h).1) := met_i (by decide) (Nat.le_of_ble_eq_true rfl) (fun _ _ _ _ => rfl) (fun X C K => j_vl (tX12_element C a0 a1 h hP (fun pc lv hd => K _ _ _ ⟨rfl, rfl, rfl⟩ pc lv hd)) ⟨rfl, rfl, rfl, trivial⟩)

-- X12_hasPlaces
def FX12_hasPlaces (a0 : Int32) (a1 : Int32) (a2 : Int32) (h : ph_H) : Int32 := if a2 < 0 then (0) else (if a1 < 0 then (0) else (if (h 45 (a0.toNatClampNeg)) < a1 then (0) else (if ((h 45 (a0.toNatClampNeg)) - a1) < a2 then (0) else (1))))
def PX12_hasPlaces (a0 : Int32) (a1 : Int32) (a2 : Int32) (h : ph_H) : Prop := (a2 < 0 → (True)) ∧ (¬ a2 < 0 → ((a1 < 0 → (True)) ∧ (¬ a1 < 0 → (vp_in a0 8 ∧ (((h 45 (a0.toNatClampNeg)) < a1 → (True)) ∧ (¬ (h 45 (a0.toNatClampNeg)) < a1 → (vp_in a0 8 ∧ ((((h 45 (a0.toNatClampNeg)) - a1) < a2 → (True)) ∧ (¬ ((h 45 (a0.toNatClampNeg)) - a1) < a2 → (True))))))))))
set_option maxRecDepth 100000 in
set_option maxHeartbeats 4000000 in
theorem tX12_hasPlaces {X : fj_X} {Y : fj_Y} {l0 : Launch} {ad : Nat → Nat} (C : FC X Y l0 cX12_hasPlaces 4 RX12 ({ frames := 0, cells := 0, slots := 0, locals := 0 } : Room) 0 0 (some .boolean)) (a0 : Int32) (a1 : Int32) (a2 : Int32) (h : ph_H) (hP : PX12_hasPlaces a0 a1 a2 h) (hR : RETq X Y ad 50 SM h cX12_hasPlaces (FX12_hasPlaces a0 a1 a2 h)) : FJ X Y ad 50 SM h 0 [(0, .ref (ad 0)), (1, .int a0), (2, .int a1), (3, .int a2)] [] := by
  unfold PX12_hasPlaces at hP
  unfold FX12_hasPlaces at hR
  refine j_iload_n C dX12_hasPlaces_0 rfl rfl ?_
  refine j_if_lt (tgt := 34) C dX12_hasPlaces_1 (by decide) (fun c0 => ?_) (fun c0 => ?_)
  · have hP := hP.1 c0
    rw [if_pos c0] at hR
    refine j_iconst (v := 0) C dX12_hasPlaces_34 (by decide) ?_
    exact hR bo_0 _ _ dX12_hasPlaces_35
  · have hP := hP.2 c0
    rw [if_neg c0] at hR
    refine j_iload_n C dX12_hasPlaces_4 rfl rfl ?_
    refine j_if_lt (tgt := 34) C dX12_hasPlaces_5 (by decide) (fun c1 => ?_) (fun c1 => ?_)
    · have hP := hP.1 c1
      rw [if_pos c1] at hR
      refine j_iconst (v := 0) C dX12_hasPlaces_34 (by decide) ?_
      exact hR bo_0 _ _ dX12_hasPlaces_35
    · have hP := hP.2 c1
      rw [if_neg c1] at hR
      refine j_iload_n C dX12_hasPlaces_8 rfl rfl ?_
      refine j_aload_n C dX12_hasPlaces_9 rfl rfl ?_
      refine gM_149 C dX12_hasPlaces_10 ?_
      refine j_iload_n C dX12_hasPlaces_13 rfl rfl ?_
      obtain ⟨p4, hP⟩ := hP
      refine j_iald (k := 45) (v := (h 45 (a0.toNatClampNeg))) C dX12_hasPlaces_14 (by decide) rfl p4 rfl ?_
      refine j_icmp_gt (tgt := 34) C dX12_hasPlaces_15 (by decide) (fun c2 => ?_) (fun c2 => ?_)
      · have hP := hP.1 c2
        rw [if_pos c2] at hR
        refine j_iconst (v := 0) C dX12_hasPlaces_34 (by decide) ?_
        exact hR bo_0 _ _ dX12_hasPlaces_35
      · have hP := hP.2 c2
        rw [if_neg c2] at hR
        refine j_iload_n C dX12_hasPlaces_18 rfl rfl ?_
        refine j_aload_n C dX12_hasPlaces_19 rfl rfl ?_
        refine gM_149 C dX12_hasPlaces_20 ?_
        refine j_iload_n C dX12_hasPlaces_23 rfl rfl ?_
        obtain ⟨p4, hP⟩ := hP
        refine j_iald (k := 45) (v := (h 45 (a0.toNatClampNeg))) C dX12_hasPlaces_24 (by decide) rfl p4 rfl ?_
        refine j_iload_n C dX12_hasPlaces_25 rfl rfl ?_
        refine j_isub C dX12_hasPlaces_26 ?_
        refine j_icmp_gt (tgt := 34) C dX12_hasPlaces_27 (by decide) (fun c3 => ?_) (fun c3 => ?_)
        · have hP := hP.1 c3
          rw [if_pos c3] at hR
          refine j_iconst (v := 0) C dX12_hasPlaces_34 (by decide) ?_
          exact hR bo_0 _ _ dX12_hasPlaces_35
        · have hP := hP.2 c3
          rw [if_neg c3] at hR
          refine j_iconst (v := 1) C dX12_hasPlaces_30 (by decide) ?_
          refine j_goto (tgt := 35) C dX12_hasPlaces_31 (by decide) ?_
          exact hR bo_1 _ _ dX12_hasPlaces_35
theorem MX12_hasPlaces {l0 : Launch} {Y : fj_Y} {ad : Nat → Nat} (a0 : Int32) (a1 : Int32) (a2 : Int32) (h : ph_H) (hP : PX12_hasPlaces a0 a1 a2 h) : MI l0 yX12_hasPlaces cX12_hasPlaces 4 (some .boolean) ({ frames := 0, cells := 0, slots := 0, locals := 0 } : Room) Y ad 50 SM h [.ref (ad 0), .int a0, .int a1, .int a2] (fun r S' h' => S' = SM ∧ h' = h ∧ r = FX12_hasPlaces a0 a1 a2 h ∧ bo r) := met_i (by decide) (Nat.le_of_ble_eq_true rfl) (fun _ _ _ q => bo_n q.2.2.2) (fun X C K => j_vl (tX12_hasPlaces C a0 a1 a2 h hP (fun b pc lv hd => K _ _ _ ⟨rfl, rfl, rfl, b⟩ pc lv hd)) ⟨rfl, rfl, rfl, rfl, trivial⟩)

-- X12_copy
def FX12_copy_136  : Nat → Int32 → Int32 → Int32 → Int32 → ph_H → Int32 × ph_H
  | 0, _, _, _, _, h => (0, h)
  | q + 1, x3, x4, x5, x6, h => if x5 ≤ x6 then ((x5, h)) else (FX12_copy_136  q x3 x4 x5 (x6 + 1) (hs h 48 (((60 * x3) + x4) + x6).toNatClampNeg (h 49 (x6.toNatClampNeg))))
def PX12_copy_136  : Nat → Int32 → Int32 → Int32 → Int32 → ph_H → Prop
  | 0, _, _, _, _, _ => False
  | q + 1, x3, x4, x5, x6, h => (x5 ≤ x6 → (True)) ∧ (¬ x5 ≤ x6 → (vp_in x6 60 ∧ (vp_in (((60 * x3) + x4) + x6) 480 ∧ (PX12_copy_136  q x3 x4 x5 (x6 + 1) (hs h 48 (((60 * x3) + x4) + x6).toNatClampNeg (h 49 (x6.toNatClampNeg)))))))
set_option maxRecDepth 100000 in
set_option maxHeartbeats 4000000 in
theorem tX12_copy_136 {X : fj_X} {Y : fj_Y} {l0 : Launch} {ad : Nat → Nat} (C : FC X Y l0 cX12_copy 7 RX12 ({ frames := 1, cells := 0, slots := 0, locals := 23 } : Room) 0 0 (some .int)) : ∀ (q : Nat) (x3 : Int32) (x4 : Int32) (x5 : Int32) (x6 : Int32) (h : ph_H), PX12_copy_136  q x3 x4 x5 x6 h → RETi X Y ad 50 SM cX12_copy (FX12_copy_136  q x3 x4 x5 x6 h) → FJ X Y ad 50 SM h 136 [(0, .ref (ad 0)), (3, .int x3), (4, .int x4), (5, .int x5), (6, .int x6)] [] := by
  intro q
  induction q with
  | zero =>
    intro x3 x4 x5 x6 h hP hR
    exact absurd hP id
  | succ q ih =>
    intro x3 x4 x5 x6 h hP hR
    unfold PX12_copy_136 at hP
    unfold FX12_copy_136 at hR
    refine j_iload C dX12_copy_136 rfl ?_
    refine j_iload C dX12_copy_138 rfl ?_
    refine j_icmp_ge (tgt := 171) C dX12_copy_140 (by decide) (fun c0 => ?_) (fun c0 => ?_)
    · have hP := hP.1 c0
      rw [if_pos c0] at hR
      refine j_iload C dX12_copy_171 rfl ?_
      exact hR _ _ dX12_copy_173
    · have hP := hP.2 c0
      rw [if_neg c0] at hR
      refine j_aload_n C dX12_copy_143 rfl rfl ?_
      refine gM_158 C dX12_copy_144 ?_
      refine j_bipush (v := 60) C dX12_copy_147 (by decide) ?_
      refine j_iload_n C dX12_copy_149 rfl rfl ?_
      refine j_imul C dX12_copy_150 ?_
      refine j_iload C dX12_copy_151 rfl ?_
      refine j_iadd C dX12_copy_153 ?_
      refine j_iload C dX12_copy_154 rfl ?_
      refine j_iadd C dX12_copy_156 ?_
      refine j_aload_n C dX12_copy_157 rfl rfl ?_
      refine gM_161 C dX12_copy_158 ?_
      refine j_iload C dX12_copy_161 rfl ?_
      obtain ⟨p12, hP⟩ := hP
      refine j_iald (k := 49) (v := (h 49 (x6.toNatClampNeg))) C dX12_copy_163 (by decide) rfl p12 rfl ?_
      obtain ⟨p14, hP⟩ := hP
      refine j_iast (k := 48) C dX12_copy_164 (by decide) rfl p14 ?_
      refine j_iinc (v := (x6 + 1)) C dX12_copy_165 rfl rfl (by decide) rfl ?_
      refine j_goto (tgt := 136) C dX12_copy_168 (by decide) ?_
      exact j_vl (ih x3 x4 x5 (x6 + 1) (hs h 48 (((60 * x3) + x4) + x6).toNatClampNeg (h 49 (x6.toNatClampNeg))) hP hR) ⟨rfl, rfl, rfl, rfl, rfl, trivial⟩
def FX12_copy_99  : Nat → Int32 → Int32 → Int32 → Int32 → Int32 → Int32 → ph_H → Int32 × ph_H
  | 0, _, _, _, _, _, _, h => (0, h)
  | q + 1, x1, x2, x3, x4, x5, x6, h => if x5 ≤ x6 then (FX12_copy_136 2000 x3 x4 x5 0 h) else (FX12_copy_99  q x1 x2 x3 x4 x5 (x6 + 1) (hs h 49 x6.toNatClampNeg (h 48 ((((60 * x1) + x2) + x6).toNatClampNeg))))
def PX12_copy_99  : Nat → Int32 → Int32 → Int32 → Int32 → Int32 → Int32 → ph_H → Prop
  | 0, _, _, _, _, _, _, _ => False
  | q + 1, x1, x2, x3, x4, x5, x6, h => (x5 ≤ x6 → (PX12_copy_136 2000 x3 x4 x5 0 h)) ∧ (¬ x5 ≤ x6 → (vp_in (((60 * x1) + x2) + x6) 480 ∧ (vp_in x6 60 ∧ (PX12_copy_99  q x1 x2 x3 x4 x5 (x6 + 1) (hs h 49 x6.toNatClampNeg (h 48 ((((60 * x1) + x2) + x6).toNatClampNeg)))))))
set_option maxRecDepth 100000 in
set_option maxHeartbeats 4000000 in
theorem tX12_copy_99 {X : fj_X} {Y : fj_Y} {l0 : Launch} {ad : Nat → Nat} (C : FC X Y l0 cX12_copy 7 RX12 ({ frames := 1, cells := 0, slots := 0, locals := 23 } : Room) 0 0 (some .int)) : ∀ (q : Nat) (x1 : Int32) (x2 : Int32) (x3 : Int32) (x4 : Int32) (x5 : Int32) (x6 : Int32) (h : ph_H), PX12_copy_99  q x1 x2 x3 x4 x5 x6 h → RETi X Y ad 50 SM cX12_copy (FX12_copy_99  q x1 x2 x3 x4 x5 x6 h) → FJ X Y ad 50 SM h 99 [(0, .ref (ad 0)), (1, .int x1), (2, .int x2), (3, .int x3), (4, .int x4), (5, .int x5), (6, .int x6)] [] := by
  intro q
  induction q with
  | zero =>
    intro x1 x2 x3 x4 x5 x6 h hP hR
    exact absurd hP id
  | succ q ih =>
    intro x1 x2 x3 x4 x5 x6 h hP hR
    unfold PX12_copy_99 at hP
    unfold FX12_copy_99 at hR
    refine j_iload C dX12_copy_99 rfl ?_
    refine j_iload C dX12_copy_101 rfl ?_
    refine j_icmp_ge (tgt := 133) C dX12_copy_103 (by decide) (fun c0 => ?_) (fun c0 => ?_)
    · have hP := hP.1 c0
      rw [if_pos c0] at hR
      refine j_iconst (v := 0) C dX12_copy_133 (by decide) ?_
      refine j_istore C dX12_copy_134 (by decide) rfl ?_
      exact j_vl (tX12_copy_136 C 2000 x3 x4 x5 0 h hP hR) ⟨rfl, rfl, rfl, rfl, rfl, trivial⟩
    · have hP := hP.2 c0
      rw [if_neg c0] at hR
      refine j_aload_n C dX12_copy_106 rfl rfl ?_
      refine gM_161 C dX12_copy_107 ?_
      refine j_iload C dX12_copy_110 rfl ?_
      refine j_aload_n C dX12_copy_112 rfl rfl ?_
      refine gM_158 C dX12_copy_113 ?_
      refine j_bipush (v := 60) C dX12_copy_116 (by decide) ?_
      refine j_iload_n C dX12_copy_118 rfl rfl ?_
      refine j_imul C dX12_copy_119 ?_
      refine j_iload_n C dX12_copy_120 rfl rfl ?_
      refine j_iadd C dX12_copy_121 ?_
      refine j_iload C dX12_copy_122 rfl ?_
      refine j_iadd C dX12_copy_124 ?_
      obtain ⟨p12, hP⟩ := hP
      refine j_iald (k := 48) (v := (h 48 ((((60 * x1) + x2) + x6).toNatClampNeg))) C dX12_copy_125 (by decide) rfl p12 rfl ?_
      obtain ⟨p14, hP⟩ := hP
      refine j_iast (k := 49) C dX12_copy_126 (by decide) rfl p14 ?_
      refine j_iinc (v := (x6 + 1)) C dX12_copy_127 rfl rfl (by decide) rfl ?_
      refine j_goto (tgt := 99) C dX12_copy_130 (by decide) ?_
      exact j_vl (ih x1 x2 x3 x4 x5 (x6 + 1) (hs h 49 x6.toNatClampNeg (h 48 ((((60 * x1) + x2) + x6).toNatClampNeg))) hP hR) ⟨rfl, rfl, rfl, rfl, rfl, rfl, rfl, trivial⟩
def FX12_copy (a0 : Int32) (a1 : Int32) (a2 : Int32) (a3 : Int32) (a4 : Int32) (h : ph_H) : Int32 × ph_H := if (FX12_isShelf a0) = 0 then (((-1), (hs h 0 0 0))) else (if (FX12_isShelf a2) = 0 then (((-1), (hs h 0 0 0))) else (if (h 44 (a0.toNatClampNeg)) = 0 then (((-11), (hs h 0 0 0))) else (if (h 44 (a2.toNatClampNeg)) = 0 then (((-11), (hs h 0 0 0))) else (if (h 44 (a0.toNatClampNeg)) < 2 then (((-12), (hs h 0 0 0))) else (if (h 44 (a0.toNatClampNeg)) = (h 44 (a2.toNatClampNeg)) then (if (FX12_hasPlaces a0 a1 a4 (hs h 0 0 0)) = 0 then (((-13), (hs h 0 0 0))) else (if (FX12_hasPlaces a2 a3 a4 (hs h 0 0 0)) = 0 then (((-13), (hs h 0 0 0))) else (FX12_copy_99 2000 a0 a1 a2 a3 a4 0 (hs h 0 0 0)))) else (((-12), (hs h 0 0 0))))))))
def PX12_copy (a0 : Int32) (a1 : Int32) (a2 : Int32) (a3 : Int32) (a4 : Int32) (h : ph_H) : Prop := (PX12_isShelf a0) ∧ (((FX12_isShelf a0) = 0 → (True)) ∧ (¬ (FX12_isShelf a0) = 0 → ((PX12_isShelf a2) ∧ (((FX12_isShelf a2) = 0 → (True)) ∧ (¬ (FX12_isShelf a2) = 0 → (vp_in a0 8 ∧ (((h 44 (a0.toNatClampNeg)) = 0 → (True)) ∧ (¬ (h 44 (a0.toNatClampNeg)) = 0 → (vp_in a2 8 ∧ (((h 44 (a2.toNatClampNeg)) = 0 → (True)) ∧ (¬ (h 44 (a2.toNatClampNeg)) = 0 → (vp_in a0 8 ∧ (((h 44 (a0.toNatClampNeg)) < 2 → (True)) ∧ (¬ (h 44 (a0.toNatClampNeg)) < 2 → (vp_in a0 8 ∧ (vp_in a2 8 ∧ (((h 44 (a0.toNatClampNeg)) = (h 44 (a2.toNatClampNeg)) → ((PX12_hasPlaces a0 a1 a4 (hs h 0 0 0)) ∧ (((FX12_hasPlaces a0 a1 a4 (hs h 0 0 0)) = 0 → (True)) ∧ (¬ (FX12_hasPlaces a0 a1 a4 (hs h 0 0 0)) = 0 → ((PX12_hasPlaces a2 a3 a4 (hs h 0 0 0)) ∧ (((FX12_hasPlaces a2 a3 a4 (hs h 0 0 0)) = 0 → (True)) ∧ (¬ (FX12_hasPlaces a2 a3 a4 (hs h 0 0 0)) = 0 → (PX12_copy_99 2000 a0 a1 a2 a3 a4 0 (hs h 0 0 0))))))))) ∧ (¬ (h 44 (a0.toNatClampNeg)) = (h 44 (a2.toNatClampNeg)) → (True)))))))))))))))))))
set_option maxRecDepth 100000 in
set_option maxHeartbeats 4000000 in
theorem tX12_copy {X : fj_X} {Y : fj_Y} {l0 : Launch} {ad : Nat → Nat} (C : FC X Y l0 cX12_copy 7 RX12 ({ frames := 1, cells := 0, slots := 0, locals := 23 } : Room) 0 0 (some .int)) (a0 : Int32) (a1 : Int32) (a2 : Int32) (a3 : Int32) (a4 : Int32) (h : ph_H) (hP : PX12_copy a0 a1 a2 a3 a4 h) (hR : RETi X Y ad 50 SM cX12_copy (FX12_copy a0 a1 a2 a3 a4 h)) : FJ X Y ad 50 SM h 0 [(0, .ref (ad 0)), (1, .int a0), (2, .int a1), (3, .int a2), (4, .int a3), (5, .int a4)] [] := by
  unfold PX12_copy at hP
  unfold FX12_copy at hR
  refine j_aload_n C dX12_copy_0 rfl rfl ?_
  refine j_iconst (v := 0) C dX12_copy_1 (by decide) ?_
  refine pM_164 C dX12_copy_2 ?_
  refine j_iload_n C dX12_copy_5 rfl rfl ?_
  obtain ⟨p4, hP⟩ := hP
  refine j_callS C (MX12_isShelf a0 (hs h 0 0 0) p4) dX12_copy_6 (CKX12_isShelf (by decide)) ⟨rfl, rfl⟩ lk_RX12_374 st_X12_isShelf rfl (Nat.le_of_ble_eq_true rfl) ?_
  intro r S' h' hq
  obtain ⟨rfl, hh, rfl, hb6⟩ := hq
  rw [hh]
  refine j_if_eq (tgt := 19) C dX12_copy_9 (by decide) (fun c0 => ?_) (fun c0 => ?_)
  · have hP := hP.1 c0
    rw [if_pos c0] at hR
    refine j_iconst (v := (-1)) C dX12_copy_19 (by decide) ?_
    exact hR _ _ dX12_copy_20
  · have hP := hP.2 c0
    rw [if_neg c0] at hR
    refine j_iload_n C dX12_copy_12 rfl rfl ?_
    obtain ⟨p1, hP⟩ := hP
    refine j_callS C (MX12_isShelf a2 (hs h 0 0 0) p1) dX12_copy_13 (CKX12_isShelf (by decide)) ⟨rfl, rfl⟩ lk_RX12_374 st_X12_isShelf rfl (Nat.le_of_ble_eq_true rfl) ?_
    intro r S' h' hq
    obtain ⟨rfl, hh, rfl, hb3⟩ := hq
    rw [hh]
    refine j_if_ne (tgt := 21) C dX12_copy_16 (by decide) (fun c1 => ?_) (fun c1 => ?_)
    · have hP := hP.2 c1
      rw [if_neg c1] at hR
      refine j_aload_n C dX12_copy_21 rfl rfl ?_
      refine gM_146 C dX12_copy_22 ?_
      refine j_iload_n C dX12_copy_25 rfl rfl ?_
      obtain ⟨p3, hP⟩ := hP
      refine j_iald (k := 44) (v := (h 44 (a0.toNatClampNeg))) C dX12_copy_26 (by decide) rfl p3 (hz_k (by decide)) ?_
      refine j_if_eq (tgt := 39) C dX12_copy_27 (by decide) (fun c2 => ?_) (fun c2 => ?_)
      · have hP := hP.1 c2
        rw [if_pos c2] at hR
        refine j_bipush (v := (-11)) C dX12_copy_39 (by decide) ?_
        exact hR _ _ dX12_copy_41
      · have hP := hP.2 c2
        rw [if_neg c2] at hR
        refine j_aload_n C dX12_copy_30 rfl rfl ?_
        refine gM_146 C dX12_copy_31 ?_
        refine j_iload_n C dX12_copy_34 rfl rfl ?_
        obtain ⟨p3, hP⟩ := hP
        refine j_iald (k := 44) (v := (h 44 (a2.toNatClampNeg))) C dX12_copy_35 (by decide) rfl p3 (hz_k (by decide)) ?_
        refine j_if_ne (tgt := 42) C dX12_copy_36 (by decide) (fun c3 => ?_) (fun c3 => ?_)
        · have hP := hP.2 c3
          rw [if_neg c3] at hR
          refine j_aload_n C dX12_copy_42 rfl rfl ?_
          refine gM_146 C dX12_copy_43 ?_
          refine j_iload_n C dX12_copy_46 rfl rfl ?_
          obtain ⟨p3, hP⟩ := hP
          refine j_iald (k := 44) (v := (h 44 (a0.toNatClampNeg))) C dX12_copy_47 (by decide) rfl p3 (hz_k (by decide)) ?_
          refine j_iconst (v := 2) C dX12_copy_48 (by decide) ?_
          refine j_icmp_lt (tgt := 67) C dX12_copy_49 (by decide) (fun c4 => ?_) (fun c4 => ?_)
          · have hP := hP.1 c4
            rw [if_pos c4] at hR
            refine j_bipush (v := (-12)) C dX12_copy_67 (by decide) ?_
            exact hR _ _ dX12_copy_69
          · have hP := hP.2 c4
            rw [if_neg c4] at hR
            refine j_aload_n C dX12_copy_52 rfl rfl ?_
            refine gM_146 C dX12_copy_53 ?_
            refine j_iload_n C dX12_copy_56 rfl rfl ?_
            obtain ⟨p3, hP⟩ := hP
            refine j_iald (k := 44) (v := (h 44 (a0.toNatClampNeg))) C dX12_copy_57 (by decide) rfl p3 (hz_k (by decide)) ?_
            refine j_aload_n C dX12_copy_58 rfl rfl ?_
            refine gM_146 C dX12_copy_59 ?_
            refine j_iload_n C dX12_copy_62 rfl rfl ?_
            obtain ⟨p8, hP⟩ := hP
            refine j_iald (k := 44) (v := (h 44 (a2.toNatClampNeg))) C dX12_copy_63 (by decide) rfl p8 (hz_k (by decide)) ?_
            refine j_icmp_eq (tgt := 70) C dX12_copy_64 (by decide) (fun c5 => ?_) (fun c5 => ?_)
            · have hP := hP.1 c5
              rw [if_pos c5] at hR
              refine j_aload_n C dX12_copy_70 rfl rfl ?_
              refine j_iload_n C dX12_copy_71 rfl rfl ?_
              refine j_iload_n C dX12_copy_72 rfl rfl ?_
              refine j_iload C dX12_copy_73 rfl ?_
              obtain ⟨p4, hP⟩ := hP
              refine j_callV C (MX12_hasPlaces a0 a1 a4 (hs h 0 0 0) p4) dX12_copy_75 (CKX12_hasPlaces (by decide)) ⟨rfl, rfl⟩ lk_RX12_377 in_X12_hasPlaces se_X12_hasPlaces (by decide) rfl rfl rfl (Nat.le_of_ble_eq_true rfl) ?_
              intro r S' h' hq
              obtain ⟨rfl, hh, rfl, hb6⟩ := hq
              rw [hh]
              refine j_if_eq (tgt := 93) C dX12_copy_78 (by decide) (fun c6 => ?_) (fun c6 => ?_)
              · have hP := hP.1 c6
                rw [if_pos c6] at hR
                refine j_bipush (v := (-13)) C dX12_copy_93 (by decide) ?_
                exact hR _ _ dX12_copy_95
              · have hP := hP.2 c6
                rw [if_neg c6] at hR
                refine j_aload_n C dX12_copy_81 rfl rfl ?_
                refine j_iload_n C dX12_copy_82 rfl rfl ?_
                refine j_iload C dX12_copy_83 rfl ?_
                refine j_iload C dX12_copy_85 rfl ?_
                obtain ⟨p4, hP⟩ := hP
                refine j_callV C (MX12_hasPlaces a2 a3 a4 (hs h 0 0 0) p4) dX12_copy_87 (CKX12_hasPlaces (by decide)) ⟨rfl, rfl⟩ lk_RX12_377 in_X12_hasPlaces se_X12_hasPlaces (by decide) rfl rfl rfl (Nat.le_of_ble_eq_true rfl) ?_
                intro r S' h' hq
                obtain ⟨rfl, hh, rfl, hb6⟩ := hq
                rw [hh]
                refine j_if_ne (tgt := 96) C dX12_copy_90 (by decide) (fun c7 => ?_) (fun c7 => ?_)
                · have hP := hP.2 c7
                  rw [if_neg c7] at hR
                  refine j_iconst (v := 0) C dX12_copy_96 (by decide) ?_
                  refine j_istore C dX12_copy_97 (by decide) rfl ?_
                  exact j_vl (tX12_copy_99 C 2000 a0 a1 a2 a3 a4 0 (hs h 0 0 0) hP hR) ⟨rfl, rfl, rfl, rfl, rfl, rfl, rfl, trivial⟩
                · have hP := hP.1 c7
                  rw [if_pos c7] at hR
                  refine j_bipush (v := (-13)) C dX12_copy_93 (by decide) ?_
                  exact hR _ _ dX12_copy_95
            · have hP := hP.2 c5
              rw [if_neg c5] at hR
              refine j_bipush (v := (-12)) C dX12_copy_67 (by decide) ?_
              exact hR _ _ dX12_copy_69
        · have hP := hP.1 c3
          rw [if_pos c3] at hR
          refine j_bipush (v := (-11)) C dX12_copy_39 (by decide) ?_
          exact hR _ _ dX12_copy_41
    · have hP := hP.1 c1
      rw [if_pos c1] at hR
      refine j_iconst (v := (-1)) C dX12_copy_19 (by decide) ?_
      exact hR _ _ dX12_copy_20
theorem MX12_copy {l0 : Launch} {Y : fj_Y} {ad : Nat → Nat} (a0 : Int32) (a1 : Int32) (a2 : Int32) (a3 : Int32) (a4 : Int32) (h : ph_H) (hP : PX12_copy a0 a1 a2 a3 a4 h) : MI l0 yX12_copy cX12_copy 7 (some .int) ({ frames := 1, cells := 0, slots := 0, locals := 23 } : Room) Y ad 50 SM h [.ref (ad 0), .int a0, .int a1, .int a2, .int a3, .int a4] (fun r S' h' => S' = SM ∧ h' = (FX12_copy a0 a1 a2 a3 a4 h).2 ∧ r = (FX12_copy a0 a1 a2 a3 a4 h).1) := met_i (by decide) (Nat.le_of_ble_eq_true rfl) (fun _ _ _ _ => rfl) (fun X C K => j_vl (tX12_copy C a0 a1 a2 a3 a4 h hP (fun pc lv hd => K _ _ _ ⟨rfl, rfl, rfl⟩ pc lv hd)) ⟨rfl, rfl, rfl, rfl, rfl, rfl, trivial⟩)
