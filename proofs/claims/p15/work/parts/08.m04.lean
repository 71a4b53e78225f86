-- X12_run
def FX12_run_91 (L31 : Int32 → ph_H → Int32 × ph_H) (L41 : Int32 → Int32 → ph_H → Int32 × ph_H) (x1 : Int32) (x2 : Int32) (h : ph_H) : Int32 × ph_H := L41 x1 (x2 + 1) h
def PX12_run_91 (LP31 : Int32 → ph_H → Prop) (LP41 : Int32 → Int32 → ph_H → Prop) (x1 : Int32) (x2 : Int32) (h : ph_H) : Prop := LP41 x1 (x2 + 1) h
set_option maxRecDepth 100000 in
set_option maxHeartbeats 4000000 in
theorem tX12_run_91 {X : fj_X} {Y : fj_Y} {l0 : Launch} {ad : Nat → Nat} (C : FC X Y l0 cX12_run 3 RX12 ({ frames := 6, cells := 0, slots := 0, locals := 133 } : Room) 0 0 (some .int)) (L31 : Int32 → ph_H → Int32 × ph_H) (LP31 : Int32 → ph_H → Prop) (hL31 : ∀ (x1 : Int32) (h : ph_H), LP31 x1 h → RETi X Y ad 50 SM cX12_run (L31 x1 h) → FJ X Y ad 50 SM h 31 [(0, .ref (ad 0)), (1, .int x1)] []) (L41 : Int32 → Int32 → ph_H → Int32 × ph_H) (LP41 : Int32 → Int32 → ph_H → Prop) (hL41 : ∀ (x1 : Int32) (x2 : Int32) (h : ph_H), LP41 x1 x2 h → RETi X Y ad 50 SM cX12_run (L41 x1 x2 h) → FJ X Y ad 50 SM h 41 [(0, .ref (ad 0)), (1, .int x1), (2, .int x2)] []) (x1 : Int32) (x2 : Int32) (h : ph_H) (hP : PX12_run_91 LP31 LP41 x1 x2 h) (hR : RETi X Y ad 50 SM cX12_run (FX12_run_91 L31 L41 x1 x2 h)) : FJ X Y ad 50 SM h 91 [(0, .ref (ad 0)), (1, .int x1), (2, .int x2)] [] := by
  unfold PX12_run_91 at hP
  unfold FX12_run_91 at hR
  refine j_iinc (v := (x2 + 1)) C dX12_run_91 rfl rfl (by decide) rfl ?_
  refine j_goto (tgt := 41) C dX12_run_94 (by decide) ?_
  exact j_vl (hL41 x1 (x2 + 1) h hP hR) ⟨rfl, rfl, rfl, trivial⟩
def FX12_run_97 (L31 : Int32 → ph_H → Int32 × ph_H) (x1 : Int32) (h : ph_H) : Int32 × ph_H := L31 (x1 + 1) h
def PX12_run_97 (LP31 : Int32 → ph_H → Prop) (x1 : Int32) (h : ph_H) : Prop := LP31 (x1 + 1) h
set_option maxRecDepth 100000 in
set_option maxHeartbeats 4000000 in
theorem tX12_run_97 {X : fj_X} {Y : fj_Y} {l0 : Launch} {ad : Nat → Nat} (C : FC X Y l0 cX12_run 3 RX12 ({ frames := 6, cells := 0, slots := 0, locals := 133 } : Room) 0 0 (some .int)) (L31 : Int32 → ph_H → Int32 × ph_H) (LP31 : Int32 → ph_H → Prop) (hL31 : ∀ (x1 : Int32) (h : ph_H), LP31 x1 h → RETi X Y ad 50 SM cX12_run (L31 x1 h) → FJ X Y ad 50 SM h 31 [(0, .ref (ad 0)), (1, .int x1)] []) (x1 : Int32) (h : ph_H) (hP : PX12_run_97 LP31 x1 h) (hR : RETi X Y ad 50 SM cX12_run (FX12_run_97 L31 x1 h)) : FJ X Y ad 50 SM h 97 [(0, .ref (ad 0)), (1, .int x1)] [] := by
  unfold PX12_run_97 at hP
  unfold FX12_run_97 at hR
  refine j_iinc (v := (x1 + 1)) C dX12_run_97 rfl rfl (by decide) rfl ?_
  refine j_goto (tgt := 31) C dX12_run_100 (by decide) ?_
  exact j_vl (hL31 (x1 + 1) h hP hR) ⟨rfl, rfl, trivial⟩
def FX12_run_41 (L31 : Int32 → ph_H → Int32 × ph_H) : Nat → Int32 → Int32 → ph_H → Int32 × ph_H
  | 0, _, _, h => (0, h)
  | q + 1, x1, x2, h => if (h 9 (x1.toNatClampNeg)) ≤ x2 then (FX12_run_97 L31 x1 h) else (if (h 0 25) = 0 then (if 300 ≤ (h 0 24) then (FX12_run_97 L31 x1 h) else (if (FX12_canGo (h 8 (x1.toNatClampNeg)) h) = 0 then (FX12_run_97 L31 x1 h) else (FX12_run_91 L31 (FX12_run_41 L31 q) x1 x2 (FX12_stepKept (h 8 (x1.toNatClampNeg)) h)))) else (FX12_run_97 L31 x1 h))
def PX12_run_41 (LP31 : Int32 → ph_H → Prop) : Nat → Int32 → Int32 → ph_H → Prop
  | 0, _, _, _ => False
  | q + 1, x1, x2, h => vp_in x1 40 ∧ (((h 9 (x1.toNatClampNeg)) ≤ x2 → (PX12_run_97 LP31 x1 h)) ∧ (¬ (h 9 (x1.toNatClampNeg)) ≤ x2 → (((h 0 25) = 0 → ((300 ≤ (h 0 24) → (PX12_run_97 LP31 x1 h)) ∧ (¬ 300 ≤ (h 0 24) → (vp_in x1 40 ∧ ((PX12_canGo (h 8 (x1.toNatClampNeg)) h) ∧ (((FX12_canGo (h 8 (x1.toNatClampNeg)) h) = 0 → (PX12_run_97 LP31 x1 h)) ∧ (¬ (FX12_canGo (h 8 (x1.toNatClampNeg)) h) = 0 → (vp_in x1 40 ∧ ((PX12_stepKept (h 8 (x1.toNatClampNeg)) h) ∧ (PX12_run_91 LP31 (PX12_run_41 LP31 q) x1 x2 (FX12_stepKept (h 8 (x1.toNatClampNeg)) h))))))))))) ∧ (¬ (h 0 25) = 0 → (PX12_run_97 LP31 x1 h)))))
set_option maxRecDepth 100000 in
set_option maxHeartbeats 4000000 in
theorem tX12_run_41 {X : fj_X} {Y : fj_Y} {l0 : Launch} {ad : Nat → Nat} (C : FC X Y l0 cX12_run 3 RX12 ({ frames := 6, cells := 0, slots := 0, locals := 133 } : Room) 0 0 (some .int)) (L31 : Int32 → ph_H → Int32 × ph_H) (LP31 : Int32 → ph_H → Prop) (hL31 : ∀ (x1 : Int32) (h : ph_H), LP31 x1 h → RETi X Y ad 50 SM cX12_run (L31 x1 h) → FJ X Y ad 50 SM h 31 [(0, .ref (ad 0)), (1, .int x1)] []) : ∀ (q : Nat) (x1 : Int32) (x2 : Int32) (h : ph_H), PX12_run_41 LP31 q x1 x2 h → RETi X Y ad 50 SM cX12_run (FX12_run_41 L31 q x1 x2 h) → FJ X Y ad 50 SM h 41 [(0, .ref (ad 0)), (1, .int x1), (2, .int x2)] [] := by
  intro q
  induction q with
  | zero =>
    intro x1 x2 h hP hR
    exact absurd hP id
  | succ q ih =>
    intro x1 x2 h hP hR
    unfold PX12_run_41 at hP
    unfold FX12_run_41 at hR
    refine j_iload_n C dX12_run_41 rfl rfl ?_
    refine j_aload_n C dX12_run_42 rfl rfl ?_
    refine gM_34 C dX12_run_43 ?_
    refine j_iload_n C dX12_run_46 rfl rfl ?_
    obtain ⟨p4, hP⟩ := hP
    refine j_iald (k := 9) (v := (h 9 (x1.toNatClampNeg))) C dX12_run_47 (by decide) rfl p4 rfl ?_
    refine j_icmp_ge (tgt := 97) C dX12_run_48 (by decide) (fun c0 => ?_) (fun c0 => ?_)
    · have hP := hP.1 c0
      rw [if_pos c0] at hR
      exact j_vl (tX12_run_97 C L31 LP31 hL31 x1 h hP hR) ⟨rfl, rfl, trivial⟩
    · have hP := hP.2 c0
      rw [if_neg c0] at hR
      refine j_aload_n C dX12_run_51 rfl rfl ?_
      refine gM_194 (v := (h 0 25)) C dX12_run_52 rfl ?_
      refine j_if_ne (tgt := 97) C dX12_run_55 (by decide) (fun c1 => ?_) (fun c1 => ?_)
      · have hP := hP.2 c1
        rw [if_neg c1] at hR
        exact j_vl (tX12_run_97 C L31 LP31 hL31 x1 h hP hR) ⟨rfl, rfl, trivial⟩
      · have hP := hP.1 c1
        rw [if_pos c1] at hR
        refine j_aload_n C dX12_run_58 rfl rfl ?_
        refine gM_191 (v := (h 0 24)) C dX12_run_59 rfl ?_
        refine j_sipush (v := 300) C dX12_run_62 (by decide) ?_
        refine j_icmp_ge (tgt := 97) C dX12_run_65 (by decide) (fun c2 => ?_) (fun c2 => ?_)
        · have hP := hP.1 c2
          rw [if_pos c2] at hR
          exact j_vl (tX12_run_97 C L31 LP31 hL31 x1 h hP hR) ⟨rfl, rfl, trivial⟩
        · have hP := hP.2 c2
          rw [if_neg c2] at hR
          refine j_aload_n C dX12_run_68 rfl rfl ?_
          refine j_aload_n C dX12_run_69 rfl rfl ?_
          refine gM_31 C dX12_run_70 ?_
          refine j_iload_n C dX12_run_73 rfl rfl ?_
          obtain ⟨p4, hP⟩ := hP
          refine j_iald (k := 8) (v := (h 8 (x1.toNatClampNeg))) C dX12_run_74 (by decide) rfl p4 rfl ?_
          obtain ⟨p6, hP⟩ := hP
          refine j_callV C (MX12_canGo (h 8 (x1.toNatClampNeg)) h p6) dX12_run_75 (CKX12_canGo (by decide)) ⟨rfl, rfl⟩ lk_RX12_215 in_X12_canGo se_X12_canGo (by decide) rfl rfl rfl (Nat.le_of_ble_eq_true rfl) ?_
          intro r S' h' hq
          obtain ⟨rfl, hh, rfl, hb8⟩ := hq
          rw [hh]
          refine j_if_eq (tgt := 97) C dX12_run_78 (by decide) (fun c3 => ?_) (fun c3 => ?_)
          · have hP := hP.1 c3
            rw [if_pos c3] at hR
            exact j_vl (tX12_run_97 C L31 LP31 hL31 x1 h hP hR) ⟨rfl, rfl, trivial⟩
          · have hP := hP.2 c3
            rw [if_neg c3] at hR
            refine j_aload_n C dX12_run_81 rfl rfl ?_
            refine j_aload_n C dX12_run_82 rfl rfl ?_
            refine gM_31 C dX12_run_83 ?_
            refine j_iload_n C dX12_run_86 rfl rfl ?_
            obtain ⟨p4, hP⟩ := hP
            refine j_iald (k := 8) (v := (h 8 (x1.toNatClampNeg))) C dX12_run_87 (by decide) rfl p4 rfl ?_
            obtain ⟨p6, hP⟩ := hP
            refine j_callVv C (MX12_stepKept (h 8 (x1.toNatClampNeg)) h p6) dX12_run_88 (CKX12_stepKept (by decide)) ⟨rfl, rfl⟩ lk_RX12_291 in_X12_stepKept se_X12_stepKept (by decide) rfl rfl rfl (Nat.le_of_ble_eq_true rfl) ?_
            intro S' h' hq
            obtain ⟨rfl, rfl⟩ := hq
            exact j_vl (tX12_run_91 C L31 LP31 hL31 (FX12_run_41 L31 q) (PX12_run_41 LP31 q) (ih) x1 x2 (FX12_stepKept (h 8 (x1.toNatClampNeg)) h) hP hR) ⟨rfl, rfl, rfl, trivial⟩
def FX12_run_138 (L112 : Int32 → ph_H → Int32 × ph_H) (h : ph_H) : Int32 × ph_H := L112 (FX12_free (h 0 26) h) h
def PX12_run_138 (LP112 : Int32 → ph_H → Prop) (h : ph_H) : Prop := (PX12_free (h 0 26) h) ∧ (LP112 (FX12_free (h 0 26) h) h)
set_option maxRecDepth 100000 in
set_option maxHeartbeats 4000000 in
theorem tX12_run_138 {X : fj_X} {Y : fj_Y} {l0 : Launch} {ad : Nat → Nat} (C : FC X Y l0 cX12_run 3 RX12 ({ frames := 6, cells := 0, slots := 0, locals := 133 } : Room) 0 0 (some .int)) (L112 : Int32 → ph_H → Int32 × ph_H) (LP112 : Int32 → ph_H → Prop) (hL112 : ∀ (x1 : Int32) (h : ph_H), LP112 x1 h → RETi X Y ad 50 SM cX12_run (L112 x1 h) → FJ X Y ad 50 SM h 112 [(0, .ref (ad 0)), (1, .int x1)] []) (h : ph_H) (hP : PX12_run_138 LP112 h) (hR : RETi X Y ad 50 SM cX12_run (FX12_run_138 L112 h)) : FJ X Y ad 50 SM h 138 [(0, .ref (ad 0))] [] := by
  unfold PX12_run_138 at hP
  unfold FX12_run_138 at hR
  refine j_aload_n C dX12_run_138 rfl rfl ?_
  refine j_aload_n C dX12_run_139 rfl rfl ?_
  refine gM_197 (v := (h 0 26)) C dX12_run_140 rfl ?_
  obtain ⟨p3, hP⟩ := hP
  refine j_callV C (MX12_free (h 0 26) h p3) dX12_run_143 (CKX12_free (by decide)) ⟨rfl, rfl⟩ lk_RX12_282 in_X12_free se_X12_free (by decide) rfl rfl rfl (Nat.le_of_ble_eq_true rfl) ?_
  intro r S' h' hq
  obtain ⟨rfl, hh, rfl⟩ := hq
  rw [hh]
  refine j_istore_n C dX12_run_146 rfl (by decide) rfl ?_
  refine j_goto (tgt := 112) C dX12_run_147 (by decide) ?_
  exact j_vl (hL112 (FX12_free (h 0 26) h) h hP hR) ⟨rfl, rfl, trivial⟩
def FX12_run_195  (s0 : Int32) (h : ph_H) : Int32 × ph_H := ((h 0 37), (hs (hs (hs h 0 40 s0) 0 41 (h 0 23)) 0 42 (h 0 24)))
def PX12_run_195  (s0 : Int32) (h : ph_H) : Prop := True
set_option maxRecDepth 100000 in
set_option maxHeartbeats 4000000 in
theorem tX12_run_195 {X : fj_X} {Y : fj_Y} {l0 : Launch} {ad : Nat → Nat} (C : FC X Y l0 cX12_run 3 RX12 ({ frames := 6, cells := 0, slots := 0, locals := 133 } : Room) 0 0 (some .int)) (s0 : Int32) (h : ph_H) (hP : PX12_run_195  s0 h) (hR : RETi X Y ad 50 SM cX12_run (FX12_run_195  s0 h)) : FJ X Y ad 50 SM h 195 [(0, .ref (ad 0))] [.int s0, .ref (ad 0)] := by
  unfold PX12_run_195 at hP
  unfold FX12_run_195 at hR
  refine pM_310 C dX12_run_195 ?_
  refine j_aload_n C dX12_run_198 rfl rfl ?_
  refine j_aload_n C dX12_run_199 rfl rfl ?_
  refine gM_188 (v := (h 0 23)) C dX12_run_200 (hz_i (by decide)) ?_
  refine pM_313 C dX12_run_203 ?_
  refine j_aload_n C dX12_run_206 rfl rfl ?_
  refine j_aload_n C dX12_run_207 rfl rfl ?_
  refine gM_191 (v := (h 0 24)) C dX12_run_208 ((hz_i (by decide)).trans (hz_i (by decide))) ?_
  refine pM_316 C dX12_run_211 ?_
  refine j_aload_n C dX12_run_214 rfl rfl ?_
  refine gM_301 (v := (h 0 37)) C dX12_run_215 ((hz_i (by decide)).trans ((hz_i (by decide)).trans (hz_i (by decide)))) ?_
  exact hR _ _ dX12_run_218
def FX12_run_150  (h : ph_H) : Int32 × ph_H := if (h 0 25) ≤ 0 then (FX12_run_195  (-1) (hs (hs (hs (hs h 0 36 1) 0 37 (FX12_ending (hs h 0 36 1))) 0 38 (h 0 24)) 0 39 (h 0 25))) else (FX12_run_195  (h 0 26) (hs (hs (hs (hs h 0 36 1) 0 37 (FX12_ending (hs h 0 36 1))) 0 38 (h 0 24)) 0 39 (h 0 25)))
def PX12_run_150  (h : ph_H) : Prop := (PX12_ending (hs h 0 36 1)) ∧ (((h 0 25) ≤ 0 → (PX12_run_195  (-1) (hs (hs (hs (hs h 0 36 1) 0 37 (FX12_ending (hs h 0 36 1))) 0 38 (h 0 24)) 0 39 (h 0 25)))) ∧ (¬ (h 0 25) ≤ 0 → (PX12_run_195  (h 0 26) (hs (hs (hs (hs h 0 36 1) 0 37 (FX12_ending (hs h 0 36 1))) 0 38 (h 0 24)) 0 39 (h 0 25)))))
set_option maxRecDepth 100000 in
set_option maxHeartbeats 4000000 in
theorem tX12_run_150 {X : fj_X} {Y : fj_Y} {l0 : Launch} {ad : Nat → Nat} (C : FC X Y l0 cX12_run 3 RX12 ({ frames := 6, cells := 0, slots := 0, locals := 133 } : Room) 0 0 (some .int)) (h : ph_H) (hP : PX12_run_150  h) (hR : RETi X Y ad 50 SM cX12_run (FX12_run_150  h)) : FJ X Y ad 50 SM h 150 [(0, .ref (ad 0))] [] := by
  unfold PX12_run_150 at hP
  unfold FX12_run_150 at hR
  refine j_aload_n C dX12_run_150 rfl rfl ?_
  refine j_iconst (v := 1) C dX12_run_151 (by decide) ?_
  refine pM_294 C dX12_run_152 bo_1 ?_
  refine j_aload_n C dX12_run_155 rfl rfl ?_
  refine j_aload_n C dX12_run_156 rfl rfl ?_
  obtain ⟨p5, hP⟩ := hP
  refine j_callV C (MX12_ending (hs h 0 36 1) p5) dX12_run_157 (CKX12_ending (by decide)) ⟨rfl, rfl⟩ lk_RX12_297 in_X12_ending se_X12_ending (by decide) rfl rfl rfl (Nat.le_of_ble_eq_true rfl) ?_
  intro r S' h' hq
  obtain ⟨rfl, hh, rfl⟩ := hq
  rw [hh]
  refine pM_301 C dX12_run_160 ?_
  refine j_aload_n C dX12_run_163 rfl rfl ?_
  refine j_aload_n C dX12_run_164 rfl rfl ?_
  refine gM_191 (v := (h 0 24)) C dX12_run_165 ((hz_i (by decide)).trans (hz_i (by decide))) ?_
  refine pM_304 C dX12_run_168 ?_
  refine j_aload_n C dX12_run_171 rfl rfl ?_
  refine j_aload_n C dX12_run_172 rfl rfl ?_
  refine gM_194 (v := (h 0 25)) C dX12_run_173 ((hz_i (by decide)).trans ((hz_i (by decide)).trans (hz_i (by decide)))) ?_
  refine pM_307 C dX12_run_176 ?_
  refine j_aload_n C dX12_run_179 rfl rfl ?_
  refine j_aload_n C dX12_run_180 rfl rfl ?_
  refine gM_194 (v := (h 0 25)) C dX12_run_181 ((hz_i (by decide)).trans ((hz_i (by decide)).trans ((hz_i (by decide)).trans (hz_i (by decide))))) ?_
  refine j_if_le (tgt := 194) C dX12_run_184 (by decide) (fun c0 => ?_) (fun c0 => ?_)
  · have hP := hP.1 c0
    rw [if_pos c0] at hR
    refine j_iconst (v := (-1)) C dX12_run_194 (by decide) ?_
    exact j_vl (tX12_run_195 C  (-1) (hs (hs (hs (hs h 0 36 1) 0 37 (FX12_ending (hs h 0 36 1))) 0 38 (h 0 24)) 0 39 (h 0 25)) hP hR) ⟨rfl, trivial⟩
  · have hP := hP.2 c0
    rw [if_neg c0] at hR
    refine j_aload_n C dX12_run_187 rfl rfl ?_
    refine gM_197 (v := (h 0 26)) C dX12_run_188 ((hz_i (by decide)).trans ((hz_i (by decide)).trans ((hz_i (by decide)).trans (hz_i (by decide))))) ?_
    refine j_goto (tgt := 195) C dX12_run_191 (by decide) ?_
    exact j_vl (tX12_run_195 C  (h 0 26) (hs (hs (hs (hs h 0 36 1) 0 37 (FX12_ending (hs h 0 36 1))) 0 38 (h 0 24)) 0 39 (h 0 25)) hP hR) ⟨rfl, trivial⟩
def FX12_run_112  : Nat → Int32 → ph_H → Int32 × ph_H
  | 0, _, h => (0, h)
  | q + 1, x1, h => if x1 < 0 then (FX12_run_150  h) else (if (h 0 25) = 0 then (if 300 ≤ (h 0 24) then (FX12_run_150  h) else (FX12_run_138 (FX12_run_112  q) (FX12_stepKept x1 h))) else (FX12_run_150  h))
def PX12_run_112  : Nat → Int32 → ph_H → Prop
  | 0, _, _ => False
  | q + 1, x1, h => (x1 < 0 → (PX12_run_150  h)) ∧ (¬ x1 < 0 → (((h 0 25) = 0 → ((300 ≤ (h 0 24) → (PX12_run_150  h)) ∧ (¬ 300 ≤ (h 0 24) → ((PX12_stepKept x1 h) ∧ (PX12_run_138 (PX12_run_112  q) (FX12_stepKept x1 h)))))) ∧ (¬ (h 0 25) = 0 → (PX12_run_150  h))))
set_option maxRecDepth 100000 in
set_option maxHeartbeats 4000000 in
theorem tX12_run_112 {X : fj_X} {Y : fj_Y} {l0 : Launch} {ad : Nat → Nat} (C : FC X Y l0 cX12_run 3 RX12 ({ frames := 6, cells := 0, slots := 0, locals := 133 } : Room) 0 0 (some .int)) : ∀ (q : Nat) (x1 : Int32) (h : ph_H), PX12_run_112  q x1 h → RETi X Y ad 50 SM cX12_run (FX12_run_112  q x1 h) → FJ X Y ad 50 SM h 112 [(0, .ref (ad 0)), (1, .int x1)] [] := by
  intro q
  induction q with
  | zero =>
    intro x1 h hP hR
    exact absurd hP id
  | succ q ih =>
    intro x1 h hP hR
    unfold PX12_run_112 at hP
    unfold FX12_run_112 at hR
    refine j_iload_n C dX12_run_112 rfl rfl ?_
    refine j_if_lt (tgt := 150) C dX12_run_113 (by decide) (fun c0 => ?_) (fun c0 => ?_)
    · have hP := hP.1 c0
      rw [if_pos c0] at hR
      exact j_vl (tX12_run_150 C  h hP hR) ⟨rfl, trivial⟩
    · have hP := hP.2 c0
      rw [if_neg c0] at hR
      refine j_aload_n C dX12_run_116 rfl rfl ?_
      refine gM_194 (v := (h 0 25)) C dX12_run_117 rfl ?_
      refine j_if_ne (tgt := 150) C dX12_run_120 (by decide) (fun c1 => ?_) (fun c1 => ?_)
      · have hP := hP.2 c1
        rw [if_neg c1] at hR
        exact j_vl (tX12_run_150 C  h hP hR) ⟨rfl, trivial⟩
      · have hP := hP.1 c1
        rw [if_pos c1] at hR
        refine j_aload_n C dX12_run_123 rfl rfl ?_
        refine gM_191 (v := (h 0 24)) C dX12_run_124 rfl ?_
        refine j_sipush (v := 300) C dX12_run_127 (by decide) ?_
        refine j_icmp_ge (tgt := 150) C dX12_run_130 (by decide) (fun c2 => ?_) (fun c2 => ?_)
        · have hP := hP.1 c2
          rw [if_pos c2] at hR
          exact j_vl (tX12_run_150 C  h hP hR) ⟨rfl, trivial⟩
        · have hP := hP.2 c2
          rw [if_neg c2] at hR
          refine j_aload_n C dX12_run_133 rfl rfl ?_
          refine j_iload_n C dX12_run_134 rfl rfl ?_
          obtain ⟨p2, hP⟩ := hP
          refine j_callVv C (MX12_stepKept x1 h p2) dX12_run_135 (CKX12_stepKept (by decide)) ⟨rfl, rfl⟩ lk_RX12_291 in_X12_stepKept se_X12_stepKept (by decide) rfl rfl rfl (Nat.le_of_ble_eq_true rfl) ?_
          intro S' h' hq
          obtain ⟨rfl, rfl⟩ := hq
          exact j_vl (tX12_run_138 C (FX12_run_112  q) (PX12_run_112  q) (ih) (FX12_stepKept x1 h) hP hR) ⟨rfl, trivial⟩
def FX12_run_31  : Nat → Int32 → ph_H → Int32 × ph_H
  | 0, _, h => (0, h)
  | q + 1, x1, h => if (h 0 9) ≤ x1 then (FX12_run_112 2000 (FX12_free (h 0 26) h) h) else (FX12_run_41 (FX12_run_31  q) 2000 x1 0 h)
def PX12_run_31  : Nat → Int32 → ph_H → Prop
  | 0, _, _ => False
  | q + 1, x1, h => ((h 0 9) ≤ x1 → ((PX12_free (h 0 26) h) ∧ (PX12_run_112 2000 (FX12_free (h 0 26) h) h))) ∧ (¬ (h 0 9) ≤ x1 → (PX12_run_41 (PX12_run_31  q) 2000 x1 0 h))
set_option maxRecDepth 100000 in
set_option maxHeartbeats 4000000 in
theorem tX12_run_31 {X : fj_X} {Y : fj_Y} {l0 : Launch} {ad : Nat → Nat} (C : FC X Y l0 cX12_run 3 RX12 ({ frames := 6, cells := 0, slots := 0, locals := 133 } : Room) 0 0 (some .int)) : ∀ (q : Nat) (x1 : Int32) (h : ph_H), PX12_run_31  q x1 h → RETi X Y ad 50 SM cX12_run (FX12_run_31  q x1 h) → FJ X Y ad 50 SM h 31 [(0, .ref (ad 0)), (1, .int x1)] [] := by
  intro q
  induction q with
  | zero =>
    intro x1 h hP hR
    exact absurd hP id
  | succ q ih =>
    intro x1 h hP hR
    unfold PX12_run_31 at hP
    unfold FX12_run_31 at hR
    refine j_iload_n C dX12_run_31 rfl rfl ?_
    refine j_aload_n C dX12_run_32 rfl rfl ?_
    refine gM_182 (v := (h 0 9)) C dX12_run_33 rfl ?_
    refine j_icmp_ge (tgt := 103) C dX12_run_36 (by decide) (fun c0 => ?_) (fun c0 => ?_)
    · have hP := hP.1 c0
      rw [if_pos c0] at hR
      refine j_aload_n C dX12_run_103 rfl rfl ?_
      refine j_aload_n C dX12_run_104 rfl rfl ?_
      refine gM_197 (v := (h 0 26)) C dX12_run_105 rfl ?_
      obtain ⟨p3, hP⟩ := hP
      refine j_callV C (MX12_free (h 0 26) h p3) dX12_run_108 (CKX12_free (by decide)) ⟨rfl, rfl⟩ lk_RX12_282 in_X12_free se_X12_free (by decide) rfl rfl rfl (Nat.le_of_ble_eq_true rfl) ?_
      intro r S' h' hq
      obtain ⟨rfl, hh, rfl⟩ := hq
      rw [hh]
      refine j_istore_n C dX12_run_111 rfl (by decide) rfl ?_
      exact j_vl (tX12_run_112 C 2000 (FX12_free (h 0 26) h) h hP hR) ⟨rfl, rfl, trivial⟩
    · have hP := hP.2 c0
      rw [if_neg c0] at hR
      refine j_iconst (v := 0) C dX12_run_39 (by decide) ?_
      refine j_istore_n C dX12_run_40 rfl (by decide) rfl ?_
      exact j_vl (tX12_run_41 C (FX12_run_31  q) (PX12_run_31  q) (ih) 2000 x1 0 h hP hR) ⟨rfl, rfl, rfl, trivial⟩
def FX12_run_29  (h : ph_H) : Int32 × ph_H := FX12_run_31 2000 0 h
def PX12_run_29  (h : ph_H) : Prop := PX12_run_31 2000 0 h
set_option maxRecDepth 100000 in
set_option maxHeartbeats 4000000 in
theorem tX12_run_29 {X : fj_X} {Y : fj_Y} {l0 : Launch} {ad : Nat → Nat} (C : FC X Y l0 cX12_run 3 RX12 ({ frames := 6, cells := 0, slots := 0, locals := 133 } : Room) 0 0 (some .int)) (h : ph_H) (hP : PX12_run_29  h) (hR : RETi X Y ad 50 SM cX12_run (FX12_run_29  h)) : FJ X Y ad 50 SM h 29 [(0, .ref (ad 0))] [] := by
  unfold PX12_run_29 at hP
  unfold FX12_run_29 at hR
  refine j_iconst (v := 0) C dX12_run_29 (by decide) ?_
  refine j_istore_n C dX12_run_30 rfl (by decide) rfl ?_
  exact j_vl (tX12_run_31 C 2000 0 h hP hR) ⟨rfl, rfl, trivial⟩
def FX12_run_14  (h : ph_H) : Int32 × ph_H := FX12_run_29  (FX12_keep 0 (hs (hs h 0 60 0) 0 64 0))
def PX12_run_14  (h : ph_H) : Prop := (PX12_keep 0 (hs (hs h 0 60 0) 0 64 0)) ∧ (PX12_run_29  (FX12_keep 0 (hs (hs h 0 60 0) 0 64 0)))
set_option maxRecDepth 100000 in
set_option maxHeartbeats 4000000 in
theorem tX12_run_14 {X : fj_X} {Y : fj_Y} {l0 : Launch} {ad : Nat → Nat} (C : FC X Y l0 cX12_run 3 RX12 ({ frames := 6, cells := 0, slots := 0, locals := 133 } : Room) 0 0 (some .int)) (h : ph_H) (hP : PX12_run_14  h) (hR : RETi X Y ad 50 SM cX12_run (FX12_run_14  h)) : FJ X Y ad 50 SM h 14 [(0, .ref (ad 0))] [] := by
  unfold PX12_run_14 at hP
  unfold FX12_run_14 at hR
  refine j_aload_n C dX12_run_14 rfl rfl ?_
  refine j_iconst (v := 0) C dX12_run_15 (by decide) ?_
  refine pM_272 C dX12_run_16 ?_
  refine j_aload_n C dX12_run_19 rfl rfl ?_
  refine j_iconst (v := 0) C dX12_run_20 (by decide) ?_
  refine pM_288 C dX12_run_21 bo_0 ?_
  refine j_aload_n C dX12_run_24 rfl rfl ?_
  refine j_iconst (v := 0) C dX12_run_25 (by decide) ?_
  obtain ⟨p8, hP⟩ := hP
  refine j_callVv C (MX12_keep 0 (hs (hs h 0 60 0) 0 64 0) p8) dX12_run_26 (CKX12_keep (by decide)) ⟨rfl, rfl⟩ lk_RX12_279 in_X12_keep se_X12_keep (by decide) rfl rfl rfl (Nat.le_of_ble_eq_true rfl) ?_
  intro S' h' hq
  obtain ⟨rfl, rfl⟩ := hq
  exact j_vl (tX12_run_29 C  (FX12_keep 0 (hs (hs h 0 60 0) 0 64 0)) hP hR) ⟨rfl, trivial⟩
def FX12_run (h : ph_H) : Int32 × ph_H := FX12_run_14  (FX12_begin (hs (hs h 0 0 0) 0 33 0))
def PX12_run (h : ph_H) : Prop := (PX12_begin (hs (hs h 0 0 0) 0 33 0)) ∧ (PX12_run_14  (FX12_begin (hs (hs h 0 0 0) 0 33 0)))
set_option maxRecDepth 100000 in
set_option maxHeartbeats 4000000 in
theorem tX12_run {X : fj_X} {Y : fj_Y} {l0 : Launch} {ad : Nat → Nat} (C : FC X Y l0 cX12_run 3 RX12 ({ frames := 6, cells := 0, slots := 0, locals := 133 } : Room) 0 0 (some .int)) (h : ph_H) (hP : PX12_run h) (hR : RETi X Y ad 50 SM cX12_run (FX12_run h)) : FJ X Y ad 50 SM h 0 [(0, .ref (ad 0))] [] := by
  unfold PX12_run at hP
  unfold FX12_run at hR
  refine j_aload_n C dX12_run_0 rfl rfl ?_
  refine j_iconst (v := 0) C dX12_run_1 (by decide) ?_
  refine pM_164 C dX12_run_2 ?_
  refine j_aload_n C dX12_run_5 rfl rfl ?_
  refine j_iconst (v := 0) C dX12_run_6 (by decide) ?_
  refine pM_218 C dX12_run_7 bo_0 ?_
  refine j_aload_n C dX12_run_10 rfl rfl ?_
  obtain ⟨p7, hP⟩ := hP
  refine j_callVv C (MX12_begin (hs (hs h 0 0 0) 0 33 0) p7) dX12_run_11 (CKX12_begin (by decide)) ⟨rfl, rfl⟩ lk_RX12_285 in_X12_begin se_X12_begin (by decide) rfl rfl rfl (Nat.le_of_ble_eq_true rfl) ?_
  intro S' h' hq
  obtain ⟨rfl, rfl⟩ := hq
  exact j_vl (tX12_run_14 C  (FX12_begin (hs (hs h 0 0 0) 0 33 0)) hP hR) ⟨rfl, trivial⟩
theorem MX12_run {l0 : Launch} {Y : fj_Y} {ad : Nat → Nat} (h : ph_H) (hP : PX12_run h) : MI l0 yX12_run cX12_run 3 (some .int) ({ frames := 6, cells := 0, slots := 0, locals := 133 } : Room) Y ad 50 SM h [.ref (ad 0)] (fun r S' h' => S' = SM ∧ h' = (FX12_run h).2 ∧ r = (FX12_run h).1) := met_i (by decide) (Nat.le_of_ble_eq_true rfl) (fun _ _ _ _ => rfl) (fun X C K => j_vl (tX12_run C h hP (fun pc lv hd => K _ _ _ ⟨rfl, rfl, rfl⟩ pc lv hd)) ⟨rfl, trivial⟩)

-- X12_told
def FX12_told (a0 : Int32) (h : ph_H) : Int32 × ph_H := if (h 0 36) = 0 then (((-2), (hs h 0 0 0))) else (if a0 = 0 then (((h 0 37), (hs h 0 0 0))) else (if a0 = 1 then (((h 0 38), (hs h 0 0 0))) else (if a0 = 2 then (((h 0 39), (hs h 0 0 0))) else (if a0 = 3 then (((h 0 40), (hs h 0 0 0))) else (if a0 = 4 then (((h 24 ((h 0 38).toNatClampNeg)), (hs h 0 0 0))) else (if a0 = 5 then (((h 0 60), (hs h 0 0 0))) else (if a0 = 6 then (((h 0 41), (hs h 0 0 0))) else (if a0 = 7 then ((((3 * (h 0 60)) + (4 * (h 0 41))), (hs h 0 0 0))) else (((-1), (hs h 0 0 0)))))))))))
def PX12_told (a0 : Int32) (h : ph_H) : Prop := ((h 0 36) = 0 → (True)) ∧ (¬ (h 0 36) = 0 → ((a0 = 0 → (True)) ∧ (¬ a0 = 0 → ((a0 = 1 → (True)) ∧ (¬ a0 = 1 → ((a0 = 2 → (True)) ∧ (¬ a0 = 2 → ((a0 = 3 → (True)) ∧ (¬ a0 = 3 → ((a0 = 4 → (vp_in (h 0 38) 301 ∧ (True))) ∧ (¬ a0 = 4 → ((a0 = 5 → (True)) ∧ (¬ a0 = 5 → ((a0 = 6 → (True)) ∧ (¬ a0 = 6 → ((a0 = 7 → (True)) ∧ (¬ a0 = 7 → (True))))))))))))))))))
set_option maxRecDepth 100000 in
set_option maxHeartbeats 4000000 in
theorem tX12_told {X : fj_X} {Y : fj_Y} {l0 : Launch} {ad : Nat → Nat} (C : FC X Y l0 cX12_told 2 RX12 ({ frames := 0, cells := 0, slots := 0, locals := 0 } : Room) 0 0 (some .int)) (a0 : Int32) (h : ph_H) (hP : PX12_told a0 h) (hR : RETi X Y ad 50 SM cX12_told (FX12_told a0 h)) : FJ X Y ad 50 SM h 0 [(0, .ref (ad 0)), (1, .int a0)] [] := by
  unfold PX12_told at hP
  unfold FX12_told at hR
  refine j_aload_n C dX12_told_0 rfl rfl ?_
  refine j_iconst (v := 0) C dX12_told_1 (by decide) ?_
  refine pM_164 C dX12_told_2 ?_
  refine j_aload_n C dX12_told_5 rfl rfl ?_
  refine gM_294 (v := (h 0 36)) C dX12_told_6 (hz_i (by decide)) ?_
  refine j_if_ne (tgt := 15) C dX12_told_9 (by decide) (fun c0 => ?_) (fun c0 => ?_)
  · have hP := hP.2 c0
    rw [if_neg c0] at hR
    refine j_iload_n C dX12_told_15 rfl rfl ?_
    rcases Classical.em (a0 = 0) with c1 | c1
    · have hP := hP.1 c1
      rw [if_pos c1] at hR
      refine j_tableIn (tgt := 64) (off := 48) C dX12_told_16 (by rw [c1]; decide) (by rw [c1]; decide) (by rw [c1]; decide) (by decide) ?_
      refine j_aload_n C dX12_told_64 rfl rfl ?_
      refine gM_301 (v := (h 0 37)) C dX12_told_65 (hz_i (by decide)) ?_
      exact hR _ _ dX12_told_68
    have hP := hP.2 c1
    rw [if_neg c1] at hR
    rcases Classical.em (a0 = 1) with c2 | c2
    · have hP := hP.1 c2
      rw [if_pos c2] at hR
      refine j_tableIn (tgt := 69) (off := 53) C dX12_told_16 (by rw [c2]; decide) (by rw [c2]; decide) (by rw [c2]; decide) (by decide) ?_
      refine j_aload_n C dX12_told_69 rfl rfl ?_
      refine gM_304 (v := (h 0 38)) C dX12_told_70 (hz_i (by decide)) ?_
      exact hR _ _ dX12_told_73
    have hP := hP.2 c2
    rw [if_neg c2] at hR
    rcases Classical.em (a0 = 2) with c3 | c3
    · have hP := hP.1 c3
      rw [if_pos c3] at hR
      refine j_tableIn (tgt := 74) (off := 58) C dX12_told_16 (by rw [c3]; decide) (by rw [c3]; decide) (by rw [c3]; decide) (by decide) ?_
      refine j_aload_n C dX12_told_74 rfl rfl ?_
      refine gM_307 (v := (h 0 39)) C dX12_told_75 (hz_i (by decide)) ?_
      exact hR _ _ dX12_told_78
    have hP := hP.2 c3
    rw [if_neg c3] at hR
    rcases Classical.em (a0 = 3) with c4 | c4
    · have hP := hP.1 c4
      rw [if_pos c4] at hR
      refine j_tableIn (tgt := 79) (off := 63) C dX12_told_16 (by rw [c4]; decide) (by rw [c4]; decide) (by rw [c4]; decide) (by decide) ?_
      refine j_aload_n C dX12_told_79 rfl rfl ?_
      refine gM_310 (v := (h 0 40)) C dX12_told_80 (hz_i (by decide)) ?_
      exact hR _ _ dX12_told_83
    have hP := hP.2 c4
    rw [if_neg c4] at hR
    rcases Classical.em (a0 = 4) with c5 | c5
    · have hP := hP.1 c5
      rw [if_pos c5] at hR
      refine j_tableIn (tgt := 84) (off := 68) C dX12_told_16 (by rw [c5]; decide) (by rw [c5]; decide) (by rw [c5]; decide) (by decide) ?_
      refine j_aload_n C dX12_told_84 rfl rfl ?_
      refine gM_80 C dX12_told_85 ?_
      refine j_aload_n C dX12_told_88 rfl rfl ?_
      refine gM_304 (v := (h 0 38)) C dX12_told_89 (hz_i (by decide)) ?_
      obtain ⟨p4, hP⟩ := hP
      refine j_iald (k := 24) (v := (h 24 ((h 0 38).toNatClampNeg))) C dX12_told_92 (by decide) rfl p4 (hz_k (by decide)) ?_
      exact hR _ _ dX12_told_93
    have hP := hP.2 c5
    rw [if_neg c5] at hR
    rcases Classical.em (a0 = 5) with c6 | c6
    · have hP := hP.1 c6
      rw [if_pos c6] at hR
      refine j_tableIn (tgt := 94) (off := 78) C dX12_told_16 (by rw [c6]; decide) (by rw [c6]; decide) (by rw [c6]; decide) (by decide) ?_
      refine j_aload_n C dX12_told_94 rfl rfl ?_
      refine gM_272 (v := (h 0 60)) C dX12_told_95 (hz_i (by decide)) ?_
      exact hR _ _ dX12_told_98
    have hP := hP.2 c6
    rw [if_neg c6] at hR
    rcases Classical.em (a0 = 6) with c7 | c7
    · have hP := hP.1 c7
      rw [if_pos c7] at hR
      refine j_tableIn (tgt := 99) (off := 83) C dX12_told_16 (by rw [c7]; decide) (by rw [c7]; decide) (by rw [c7]; decide) (by decide) ?_
      refine j_aload_n C dX12_told_99 rfl rfl ?_
      refine gM_313 (v := (h 0 41)) C dX12_told_100 (hz_i (by decide)) ?_
      exact hR _ _ dX12_told_103
    have hP := hP.2 c7
    rw [if_neg c7] at hR
    rcases Classical.em (a0 = 7) with c8 | c8
    · have hP := hP.1 c8
      rw [if_pos c8] at hR
      refine j_tableIn (tgt := 104) (off := 88) C dX12_told_16 (by rw [c8]; decide) (by rw [c8]; decide) (by rw [c8]; decide) (by decide) ?_
      refine j_iconst (v := 3) C dX12_told_104 (by decide) ?_
      refine j_aload_n C dX12_told_105 rfl rfl ?_
      refine gM_272 (v := (h 0 60)) C dX12_told_106 (hz_i (by decide)) ?_
      refine j_imul C dX12_told_109 ?_
      refine j_iconst (v := 4) C dX12_told_110 (by decide) ?_
      refine j_aload_n C dX12_told_111 rfl rfl ?_
      refine gM_313 (v := (h 0 41)) C dX12_told_112 (hz_i (by decide)) ?_
      refine j_imul C dX12_told_115 ?_
      refine j_iadd C dX12_told_116 ?_
      exact hR _ _ dX12_told_117
    have hP := hP.2 c8
    rw [if_neg c8] at hR
    refine j_tableOut (tgt := 118) C dX12_told_16 (sw_out (fun v h1 h2 e => by rcases (show v = 0 ∨ v = 1 ∨ v = 2 ∨ v = 3 ∨ v = 4 ∨ v = 5 ∨ v = 6 ∨ v = 7 by omega) with z | z | z | z | z | z | z | z <;> rw [z] at e <;> first | exact c1 (e.trans (by decide)) | exact c2 (e.trans (by decide)) | exact c3 (e.trans (by decide)) | exact c4 (e.trans (by decide)) | exact c5 (e.trans (by decide)) | exact c6 (e.trans (by decide)) | exact c7 (e.trans (by decide)) | exact c8 (e.trans (by decide)))) (by decide) ?_
    refine j_iconst (v := (-1)) C dX12_told_118 (by decide) ?_
    exact hR _ _ dX12_told_119
  · have hP := hP.1 c0
    rw [if_pos c0] at hR
    refine j_bipush (v := (-2)) C dX12_told_12 (by decide) ?_
    exact hR _ _ dX12_told_14
theorem MX12_told {l0 : Launch} {Y : fj_Y} {ad : Nat → Nat} (a0 : Int32) (h : ph_H) (hP : PX12_told a0 h) : MI l0 yX12_told cX12_told 2 (some .int) ({ frames := 0, cells := 0, slots := 0, locals := 0 } : Room) Y ad 50 SM h [.ref (ad 0), .int a0] (fun r S' h' => S' = SM ∧ h' = (FX12_told a0 h).2 ∧ r = (FX12_told a0 h).1) := met_i (by decide) (Nat.le_of_ble_eq_true rfl) (fun _ _ _ _ => rfl) (fun X C K => j_vl (tX12_told C a0 h hP (fun pc lv hd => K _ _ _ ⟨rfl, rfl, rfl⟩ pc lv hd)) ⟨rfl, rfl, trivial⟩)

-- X12_change
def FX12_change_36  (h : ph_H) : Int32 × ph_H := ((-1), h)
def PX12_change_36  (h : ph_H) : Prop := True
set_option maxRecDepth 100000 in
set_option maxHeartbeats 4000000 in
theorem tX12_change_36 {X : fj_X} {Y : fj_Y} {l0 : Launch} {ad : Nat → Nat} (C : FC X Y l0 cX12_change 3 RX12 ({ frames := 1, cells := 0, slots := 0, locals := 25 } : Room) 0 0 (some .int)) (h : ph_H) (hP : PX12_change_36  h) (hR : RETi X Y ad 50 SM cX12_change (FX12_change_36  h)) : FJ X Y ad 50 SM h 36 [] [] := by
  unfold PX12_change_36 at hP
  unfold FX12_change_36 at hR
  refine j_iconst (v := (-1)) C dX12_change_36 (by decide) ?_
  refine j_goto (tgt := 59) C dX12_change_37 (by decide) ?_
  exact hR _ _ dX12_change_59
def FX12_change (a0 : Int32) (a1 : Int32) (h : ph_H) : Int32 × ph_H := if (h 0 36) = 0 then (((-1), (hs h 0 0 0))) else (if a0 < 0 then (FX12_change_36  (hs h 0 0 0)) else (if (h 0 60) ≤ a0 then (FX12_change_36  (hs h 0 0 0)) else (if (FX12_isIn a1.toInt64 0 1) = 0 then (FX12_change_36  (hs h 0 0 0)) else (if a1 = 0 then (((h 37 (a0.toNatClampNeg)), (hs h 0 0 0))) else (((h 38 (a0.toNatClampNeg)), (hs h 0 0 0)))))))
def PX12_change (a0 : Int32) (a1 : Int32) (h : ph_H) : Prop := ((h 0 36) = 0 → (True)) ∧ (¬ (h 0 36) = 0 → ((a0 < 0 → (PX12_change_36  (hs h 0 0 0))) ∧ (¬ a0 < 0 → (((h 0 60) ≤ a0 → (PX12_change_36  (hs h 0 0 0))) ∧ (¬ (h 0 60) ≤ a0 → ((PX12_isIn a1.toInt64 0 1) ∧ (((FX12_isIn a1.toInt64 0 1) = 0 → (PX12_change_36  (hs h 0 0 0))) ∧ (¬ (FX12_isIn a1.toInt64 0 1) = 0 → ((a1 = 0 → (vp_in a0 301 ∧ (True))) ∧ (¬ a1 = 0 → (vp_in a0 301 ∧ (True))))))))))))
set_option maxRecDepth 100000 in
set_option maxHeartbeats 4000000 in
theorem tX12_change {X : fj_X} {Y : fj_Y} {l0 : Launch} {ad : Nat → Nat} (C : FC X Y l0 cX12_change 3 RX12 ({ frames := 1, cells := 0, slots := 0, locals := 25 } : Room) 0 0 (some .int)) (a0 : Int32) (a1 : Int32) (h : ph_H) (hP : PX12_change a0 a1 h) (hR : RETi X Y ad 50 SM cX12_change (FX12_change a0 a1 h)) : FJ X Y ad 50 SM h 0 [(0, .ref (ad 0)), (1, .int a0), (2, .int a1)] [] := by
  unfold PX12_change at hP
  unfold FX12_change at hR
  refine j_aload_n C dX12_change_0 rfl rfl ?_
  refine j_iconst (v := 0) C dX12_change_1 (by decide) ?_
  refine pM_164 C dX12_change_2 ?_
  refine j_aload_n C dX12_change_5 rfl rfl ?_
  refine gM_294 (v := (h 0 36)) C dX12_change_6 (hz_i (by decide)) ?_
  refine j_if_ne (tgt := 14) C dX12_change_9 (by decide) (fun c0 => ?_) (fun c0 => ?_)
  · have hP := hP.2 c0
    rw [if_neg c0] at hR
    refine j_iload_n C dX12_change_14 rfl rfl ?_
    refine j_if_lt (tgt := 36) C dX12_change_15 (by decide) (fun c1 => ?_) (fun c1 => ?_)
    · have hP := hP.1 c1
      rw [if_pos c1] at hR
      exact j_vl (tX12_change_36 C  (hs h 0 0 0) hP hR) trivial
    · have hP := hP.2 c1
      rw [if_neg c1] at hR
      refine j_iload_n C dX12_change_18 rfl rfl ?_
      refine j_aload_n C dX12_change_19 rfl rfl ?_
      refine gM_272 (v := (h 0 60)) C dX12_change_20 (hz_i (by decide)) ?_
      refine j_icmp_ge (tgt := 36) C dX12_change_23 (by decide) (fun c2 => ?_) (fun c2 => ?_)
      · have hP := hP.1 c2
        rw [if_pos c2] at hR
        exact j_vl (tX12_change_36 C  (hs h 0 0 0) hP hR) trivial
      · have hP := hP.2 c2
        rw [if_neg c2] at hR
        refine j_iload_n C dX12_change_26 rfl rfl ?_
        refine j_i2l C dX12_change_27 ?_
        refine j_lconst (v := 0) C dX12_change_28 (by decide) ?_
        refine j_lconst (v := 1) C dX12_change_29 (by decide) ?_
        obtain ⟨p4, hP⟩ := hP
        refine j_callS C (MX12_isIn a1.toInt64 0 1 (hs h 0 0 0) p4) dX12_change_30 (CKX12_isIn (by decide)) ⟨rfl, rfl⟩ lk_RX12_169 st_X12_isIn rfl (Nat.le_of_ble_eq_true rfl) ?_
        intro r S' h' hq
        obtain ⟨rfl, hh, rfl, hb6⟩ := hq
        rw [hh]
        refine j_if_ne (tgt := 40) C dX12_change_33 (by decide) (fun c3 => ?_) (fun c3 => ?_)
        · have hP := hP.2 c3
          rw [if_neg c3] at hR
          refine j_iload_n C dX12_change_40 rfl rfl ?_
          refine j_if_ne (tgt := 53) C dX12_change_41 (by decide) (fun c4 => ?_) (fun c4 => ?_)
          · have hP := hP.2 c4
            rw [if_neg c4] at hR
            refine j_aload_n C dX12_change_53 rfl rfl ?_
            refine gM_123 C dX12_change_54 ?_
            refine j_iload_n C dX12_change_57 rfl rfl ?_
            obtain ⟨p3, hP⟩ := hP
            refine j_iald (k := 38) (v := (h 38 (a0.toNatClampNeg))) C dX12_change_58 (by decide) rfl p3 (hz_k (by decide)) ?_
            exact hR _ _ dX12_change_59
          · have hP := hP.1 c4
            rw [if_pos c4] at hR
            refine j_aload_n C dX12_change_44 rfl rfl ?_
            refine gM_120 C dX12_change_45 ?_
            refine j_iload_n C dX12_change_48 rfl rfl ?_
            obtain ⟨p3, hP⟩ := hP
            refine j_iald (k := 37) (v := (h 37 (a0.toNatClampNeg))) C dX12_change_49 (by decide) rfl p3 (hz_k (by decide)) ?_
            refine j_goto (tgt := 59) C dX12_change_50 (by decide) ?_
            exact hR _ _ dX12_change_59
        · have hP := hP.1 c3
          rw [if_pos c3] at hR
          exact j_vl (tX12_change_36 C  (hs h 0 0 0) hP hR) trivial
  · have hP := hP.1 c0
    rw [if_pos c0] at hR
    refine j_iconst (v := (-1)) C dX12_change_12 (by decide) ?_
    exact hR _ _ dX12_change_13
theorem MX12_change {l0 : Launch} {Y : fj_Y} {ad : Nat → Nat} (a0 : Int32) (a1 : Int32) (h : ph_H) (hP : PX12_change a0 a1 h) : MI l0 yX12_change cX12_change 3 (some .int) ({ frames := 1, cells := 0, slots := 0, locals := 25 } : Room) Y ad 50 SM h [.ref (ad 0), .int a0, .int a1] (fun r S' h' => S' = SM ∧ h' = (FX12_change a0 a1 h).2 ∧ r = (FX12_change a0 a1 h).1) := met_i (by decide) (Nat.le_of_ble_eq_true rfl) (fun _ _ _ _ => rfl) (fun X C K => j_vl (tX12_change C a0 a1 h hP (fun pc lv hd => K _ _ _ ⟨rfl, rfl, rfl⟩ pc lv hd)) ⟨rfl, rfl, rfl, trivial⟩)

-- X12_step_
def FX12_step_ (a0 : Int32) (a1 : Int32) (h : ph_H) : Int32 × ph_H := if (h 0 36) = 0 then (((-1), (hs h 0 0 0))) else (if (FX12_isIn a0.toInt64 1 ((h 0 38).toInt64)) = 0 then (((-1), (hs h 0 0 0))) else (if a1 = 0 then (((h 29 (a0.toNatClampNeg)), (hs h 0 0 0))) else (if a1 = 1 then (((h 30 (a0.toNatClampNeg)), (hs h 0 0 0))) else (if a1 = 2 then (((h 31 (a0.toNatClampNeg)), (hs h 0 0 0))) else (if a1 = 3 then (((h 32 (a0.toNatClampNeg)), (hs h 0 0 0))) else (if a1 = 4 then (((h 33 (a0.toNatClampNeg)), (hs h 0 0 0))) else (if a1 = 5 then (((h 34 (a0.toNatClampNeg)), (hs h 0 0 0))) else (((-1), (hs h 0 0 0))))))))))
def PX12_step_ (a0 : Int32) (a1 : Int32) (h : ph_H) : Prop := ((h 0 36) = 0 → (True)) ∧ (¬ (h 0 36) = 0 → ((PX12_isIn a0.toInt64 1 ((h 0 38).toInt64)) ∧ (((FX12_isIn a0.toInt64 1 ((h 0 38).toInt64)) = 0 → (True)) ∧ (¬ (FX12_isIn a0.toInt64 1 ((h 0 38).toInt64)) = 0 → ((a1 = 0 → (vp_in a0 301 ∧ (True))) ∧ (¬ a1 = 0 → ((a1 = 1 → (vp_in a0 301 ∧ (True))) ∧ (¬ a1 = 1 → ((a1 = 2 → (vp_in a0 301 ∧ (True))) ∧ (¬ a1 = 2 → ((a1 = 3 → (vp_in a0 301 ∧ (True))) ∧ (¬ a1 = 3 → ((a1 = 4 → (vp_in a0 301 ∧ (True))) ∧ (¬ a1 = 4 → ((a1 = 5 → (vp_in a0 301 ∧ (True))) ∧ (¬ a1 = 5 → (True)))))))))))))))))
set_option maxRecDepth 100000 in
set_option maxHeartbeats 4000000 in
theorem tX12_step_ {X : fj_X} {Y : fj_Y} {l0 : Launch} {ad : Nat → Nat} (C : FC X Y l0 cX12_step_ 3 RX12 ({ frames := 1, cells := 0, slots := 0, locals := 25 } : Room) 0 0 (some .int)) (a0 : Int32) (a1 : Int32) (h : ph_H) (hP : PX12_step_ a0 a1 h) (hR : RETi X Y ad 50 SM cX12_step_ (FX12_step_ a0 a1 h)) : FJ X Y ad 50 SM h 0 [(0, .ref (ad 0)), (1, .int a0), (2, .int a1)] [] := by
  unfold PX12_step_ at hP
  unfold FX12_step_ at hR
  refine j_aload_n C dX12_step__0 rfl rfl ?_
  refine j_iconst (v := 0) C dX12_step__1 (by decide) ?_
  refine pM_164 C dX12_step__2 ?_
  refine j_aload_n C dX12_step__5 rfl rfl ?_
  refine gM_294 (v := (h 0 36)) C dX12_step__6 (hz_i (by decide)) ?_
  refine j_if_ne (tgt := 14) C dX12_step__9 (by decide) (fun c0 => ?_) (fun c0 => ?_)
  · have hP := hP.2 c0
    rw [if_neg c0] at hR
    refine j_iload_n C dX12_step__14 rfl rfl ?_
    refine j_i2l C dX12_step__15 ?_
    refine j_lconst (v := 1) C dX12_step__16 (by decide) ?_
    refine j_aload_n C dX12_step__17 rfl rfl ?_
    refine gM_304 (v := (h 0 38)) C dX12_step__18 (hz_i (by decide)) ?_
    refine j_i2l C dX12_step__21 ?_
    obtain ⟨p6, hP⟩ := hP
    refine j_callS C (MX12_isIn a0.toInt64 1 ((h 0 38).toInt64) (hs h 0 0 0) p6) dX12_step__22 (CKX12_isIn (by decide)) ⟨rfl, rfl⟩ lk_RX12_169 st_X12_isIn rfl (Nat.le_of_ble_eq_true rfl) ?_
    intro r S' h' hq
    obtain ⟨rfl, hh, rfl, hb8⟩ := hq
    rw [hh]
    refine j_if_ne (tgt := 30) C dX12_step__25 (by decide) (fun c1 => ?_) (fun c1 => ?_)
    · have hP := hP.2 c1
      rw [if_neg c1] at hR
      refine j_iload_n C dX12_step__30 rfl rfl ?_
      rcases Classical.em (a1 = 0) with c2 | c2
      · have hP := hP.1 c2
        rw [if_pos c2] at hR
        refine j_tableIn (tgt := 68) (off := 37) C dX12_step__31 (by rw [c2]; decide) (by rw [c2]; decide) (by rw [c2]; decide) (by decide) ?_
        refine j_aload_n C dX12_step__68 rfl rfl ?_
        refine gM_96 C dX12_step__69 ?_
        refine j_iload_n C dX12_step__72 rfl rfl ?_
        obtain ⟨p3, hP⟩ := hP
        refine j_iald (k := 29) (v := (h 29 (a0.toNatClampNeg))) C dX12_step__73 (by decide) rfl p3 (hz_k (by decide)) ?_
        exact hR _ _ dX12_step__74
      have hP := hP.2 c2
      rw [if_neg c2] at hR
      rcases Classical.em (a1 = 1) with c3 | c3
      · have hP := hP.1 c3
        rw [if_pos c3] at hR
        refine j_tableIn (tgt := 75) (off := 44) C dX12_step__31 (by rw [c3]; decide) (by rw [c3]; decide) (by rw [c3]; decide) (by decide) ?_
        refine j_aload_n C dX12_step__75 rfl rfl ?_
        refine gM_99 C dX12_step__76 ?_
        refine j_iload_n C dX12_step__79 rfl rfl ?_
        obtain ⟨p3, hP⟩ := hP
        refine j_iald (k := 30) (v := (h 30 (a0.toNatClampNeg))) C dX12_step__80 (by decide) rfl p3 (hz_k (by decide)) ?_
        exact hR _ _ dX12_step__81
      have hP := hP.2 c3
      rw [if_neg c3] at hR
      rcases Classical.em (a1 = 2) with c4 | c4
      · have hP := hP.1 c4
        rw [if_pos c4] at hR
        refine j_tableIn (tgt := 82) (off := 51) C dX12_step__31 (by rw [c4]; decide) (by rw [c4]; decide) (by rw [c4]; decide) (by decide) ?_
        refine j_aload_n C dX12_step__82 rfl rfl ?_
        refine gM_102 C dX12_step__83 ?_
        refine j_iload_n C dX12_step__86 rfl rfl ?_
        obtain ⟨p3, hP⟩ := hP
        refine j_iald (k := 31) (v := (h 31 (a0.toNatClampNeg))) C dX12_step__87 (by decide) rfl p3 (hz_k (by decide)) ?_
        exact hR _ _ dX12_step__88
      have hP := hP.2 c4
      rw [if_neg c4] at hR
      rcases Classical.em (a1 = 3) with c5 | c5
      · have hP := hP.1 c5
        rw [if_pos c5] at hR
        refine j_tableIn (tgt := 89) (off := 58) C dX12_step__31 (by rw [c5]; decide) (by rw [c5]; decide) (by rw [c5]; decide) (by decide) ?_
        refine j_aload_n C dX12_step__89 rfl rfl ?_
        refine gM_105 C dX12_step__90 ?_
        refine j_iload_n C dX12_step__93 rfl rfl ?_
        obtain ⟨p3, hP⟩ := hP
        refine j_iald (k := 32) (v := (h 32 (a0.toNatClampNeg))) C dX12_step__94 (by decide) rfl p3 (hz_k (by decide)) ?_
        exact hR _ _ dX12_step__95
      have hP := hP.2 c5
      rw [if_neg c5] at hR
      rcases Classical.em (a1 = 4) with c6 | c6
      · have hP := hP.1 c6
        rw [if_pos c6] at hR
        refine j_tableIn (tgt := 96) (off := 65) C dX12_step__31 (by rw [c6]; decide) (by rw [c6]; decide) (by rw [c6]; decide) (by decide) ?_
        refine j_aload_n C dX12_step__96 rfl rfl ?_
        refine gM_108 C dX12_step__97 ?_
        refine j_iload_n C dX12_step__100 rfl rfl ?_
        obtain ⟨p3, hP⟩ := hP
        refine j_iald (k := 33) (v := (h 33 (a0.toNatClampNeg))) C dX12_step__101 (by decide) rfl p3 (hz_k (by decide)) ?_
        exact hR _ _ dX12_step__102
      have hP := hP.2 c6
      rw [if_neg c6] at hR
      rcases Classical.em (a1 = 5) with c7 | c7
      · have hP := hP.1 c7
        rw [if_pos c7] at hR
        refine j_tableIn (tgt := 103) (off := 72) C dX12_step__31 (by rw [c7]; decide) (by rw [c7]; decide) (by rw [c7]; decide) (by decide) ?_
        refine j_aload_n C dX12_step__103 rfl rfl ?_
        refine gM_111 C dX12_step__104 ?_
        refine j_iload_n C dX12_step__107 rfl rfl ?_
        obtain ⟨p3, hP⟩ := hP
        refine j_iald (k := 34) (v := (h 34 (a0.toNatClampNeg))) C dX12_step__108 (by decide) rfl p3 (hz_k (by decide)) ?_
        exact hR _ _ dX12_step__109
      have hP := hP.2 c7
      rw [if_neg c7] at hR
      refine j_tableOut (tgt := 110) C dX12_step__31 (sw_out (fun v h1 h2 e => by rcases (show v = 0 ∨ v = 1 ∨ v = 2 ∨ v = 3 ∨ v = 4 ∨ v = 5 by omega) with z | z | z | z | z | z <;> rw [z] at e <;> first | exact c2 (e.trans (by decide)) | exact c3 (e.trans (by decide)) | exact c4 (e.trans (by decide)) | exact c5 (e.trans (by decide)) | exact c6 (e.trans (by decide)) | exact c7 (e.trans (by decide)))) (by decide) ?_
      refine j_iconst (v := (-1)) C dX12_step__110 (by decide) ?_
      exact hR _ _ dX12_step__111
    · have hP := hP.1 c1
      rw [if_pos c1] at hR
      refine j_iconst (v := (-1)) C dX12_step__28 (by decide) ?_
      exact hR _ _ dX12_step__29
  · have hP := hP.1 c0
    rw [if_pos c0] at hR
    refine j_iconst (v := (-1)) C dX12_step__12 (by decide) ?_
    exact hR _ _ dX12_step__13
theorem MX12_step_ {l0 : Launch} {Y : fj_Y} {ad : Nat → Nat} (a0 : Int32) (a1 : Int32) (h : ph_H) (hP : PX12_step_ a0 a1 h) : MI l0 yX12_step_ cX12_step_ 3 (some .int) ({ frames := 1, cells := 0, slots := 0, locals := 25 } : Room) Y ad 50 SM h [.ref (ad 0), .int a0, .int a1] (fun r S' h' => S' = SM ∧ h' = (FX12_step_ a0 a1 h).2 ∧ r = (FX12_step_ a0 a1 h).1) := met_i (by decide) (Nat.le_of_ble_eq_true rfl) (fun _ _ _ _ => rfl) (fun X C K => j_vl (tX12_step_ C a0 a1 h hP (fun pc lv hd => K _ _ _ ⟨rfl, rfl, rfl⟩ pc lv hd)) ⟨rfl, rfl, rfl, trivial⟩)

-- X12_toldThread
def FX12_toldThread_33 (L5 : Int32 → Int32 → Int32 → Int32 → ph_H → Int32) (x1 : Int32) (x2 : Int32) (x4 : Int32) (s0 : Int32) (h : ph_H) : Int32 := L5 x1 x2 s0 (x4 + 1) h
def PX12_toldThread_33 (LP5 : Int32 → Int32 → Int32 → Int32 → ph_H → Prop) (x1 : Int32) (x2 : Int32) (x4 : Int32) (s0 : Int32) (h : ph_H) : Prop := LP5 x1 x2 s0 (x4 + 1) h
set_option maxRecDepth 100000 in
set_option maxHeartbeats 4000000 in
theorem tX12_toldThread_33 {X : fj_X} {Y : fj_Y} {l0 : Launch} {ad : Nat → Nat} (C : FC X Y l0 cX12_toldThread 5 RX12 ({ frames := 0, cells := 0, slots := 0, locals := 0 } : Room) 0 0 (some .int)) (h : ph_H) (L5 : Int32 → Int32 → Int32 → Int32 → ph_H → Int32) (LP5 : Int32 → Int32 → Int32 → Int32 → ph_H → Prop) (hL5 : ∀ (x1 : Int32) (x2 : Int32) (x3 : Int32) (x4 : Int32), LP5 x1 x2 x3 x4 h → RETp X Y ad 50 SM h cX12_toldThread (L5 x1 x2 x3 x4 h) → FJ X Y ad 50 SM h 5 [(0, .ref (ad 0)), (1, .int x1), (2, .int x2), (3, .int x3), (4, .int x4)] []) (x1 : Int32) (x2 : Int32) (x4 : Int32) (s0 : Int32) (hP : PX12_toldThread_33 LP5 x1 x2 x4 s0 h) (hR : RETp X Y ad 50 SM h cX12_toldThread (FX12_toldThread_33 L5 x1 x2 x4 s0 h)) : FJ X Y ad 50 SM h 33 [(0, .ref (ad 0)), (1, .int x1), (2, .int x2), (4, .int x4)] [.int s0] := by
  unfold PX12_toldThread_33 at hP
  unfold FX12_toldThread_33 at hR
  refine j_istore_n C dX12_toldThread_33 rfl (by decide) rfl ?_
  refine j_iinc (v := (x4 + 1)) C dX12_toldThread_34 rfl rfl (by decide) rfl ?_
  refine j_goto (tgt := 5) C dX12_toldThread_37 (by decide) ?_
  exact j_vl (hL5 x1 x2 s0 (x4 + 1) hP hR) ⟨rfl, rfl, rfl, rfl, rfl, trivial⟩
def FX12_toldThread_5  : Nat → Int32 → Int32 → Int32 → Int32 → ph_H → Int32
  | 0, _, _, _, _, _ => 0
  | q + 1, x1, x2, x3, x4, h => if x1 ≤ x4 then (x3) else (if x2 ≤ (h 37 (x4.toNatClampNeg)) then (FX12_toldThread_33 (FX12_toldThread_5  q) x1 x2 x4 x3 h) else (FX12_toldThread_33 (FX12_toldThread_5  q) x1 x2 x4 (h 38 (x4.toNatClampNeg)) h))
def PX12_toldThread_5  : Nat → Int32 → Int32 → Int32 → Int32 → ph_H → Prop
  | 0, _, _, _, _, _ => False
  | q + 1, x1, x2, x3, x4, h => (x1 ≤ x4 → (True)) ∧ (¬ x1 ≤ x4 → (vp_in x4 301 ∧ ((x2 ≤ (h 37 (x4.toNatClampNeg)) → (PX12_toldThread_33 (PX12_toldThread_5  q) x1 x2 x4 x3 h)) ∧ (¬ x2 ≤ (h 37 (x4.toNatClampNeg)) → (vp_in x4 301 ∧ (PX12_toldThread_33 (PX12_toldThread_5  q) x1 x2 x4 (h 38 (x4.toNatClampNeg)) h))))))
set_option maxRecDepth 100000 in
set_option maxHeartbeats 4000000 in
theorem tX12_toldThread_5 {X : fj_X} {Y : fj_Y} {l0 : Launch} {ad : Nat → Nat} (C : FC X Y l0 cX12_toldThread 5 RX12 ({ frames := 0, cells := 0, slots := 0, locals := 0 } : Room) 0 0 (some .int)) (h : ph_H) : ∀ (q : Nat) (x1 : Int32) (x2 : Int32) (x3 : Int32) (x4 : Int32), PX12_toldThread_5  q x1 x2 x3 x4 h → RETp X Y ad 50 SM h cX12_toldThread (FX12_toldThread_5  q x1 x2 x3 x4 h) → FJ X Y ad 50 SM h 5 [(0, .ref (ad 0)), (1, .int x1), (2, .int x2), (3, .int x3), (4, .int x4)] [] := by
  intro q
  induction q with
  | zero =>
    intro x1 x2 x3 x4 hP hR
    exact absurd hP id
  | succ q ih =>
    intro x1 x2 x3 x4 hP hR
    unfold PX12_toldThread_5 at hP
    unfold FX12_toldThread_5 at hR
    refine j_iload C dX12_toldThread_5 rfl ?_
    refine j_iload_n C dX12_toldThread_7 rfl rfl ?_
    refine j_icmp_ge (tgt := 40) C dX12_toldThread_8 (by decide) (fun c0 => ?_) (fun c0 => ?_)
    · have hP := hP.1 c0
      rw [if_pos c0] at hR
      refine j_iload_n C dX12_toldThread_40 rfl rfl ?_
      exact hR _ _ dX12_toldThread_41
    · have hP := hP.2 c0
      rw [if_neg c0] at hR
      refine j_aload_n C dX12_toldThread_11 rfl rfl ?_
      refine gM_120 C dX12_toldThread_12 ?_
      refine j_iload C dX12_toldThread_15 rfl ?_
      obtain ⟨p3, hP⟩ := hP
      refine j_iald (k := 37) (v := (h 37 (x4.toNatClampNeg))) C dX12_toldThread_17 (by decide) rfl p3 rfl ?_
      refine j_iload_n C dX12_toldThread_18 rfl rfl ?_
      refine j_icmp_ge (tgt := 32) C dX12_toldThread_19 (by decide) (fun c1 => ?_) (fun c1 => ?_)
      · have hP := hP.1 c1
        rw [if_pos c1] at hR
        refine j_iload_n C dX12_toldThread_32 rfl rfl ?_
        exact j_vl (tX12_toldThread_33 C h (FX12_toldThread_5  q) (PX12_toldThread_5  q) (ih) x1 x2 x4 x3 hP hR) ⟨rfl, rfl, rfl, rfl, trivial⟩
      · have hP := hP.2 c1
        rw [if_neg c1] at hR
        refine j_aload_n C dX12_toldThread_22 rfl rfl ?_
        refine gM_123 C dX12_toldThread_23 ?_
        refine j_iload C dX12_toldThread_26 rfl ?_
        obtain ⟨p3, hP⟩ := hP
        refine j_iald (k := 38) (v := (h 38 (x4.toNatClampNeg))) C dX12_toldThread_28 (by decide) rfl p3 rfl ?_
        refine j_goto (tgt := 33) C dX12_toldThread_29 (by decide) ?_
        exact j_vl (tX12_toldThread_33 C h (FX12_toldThread_5  q) (PX12_toldThread_5  q) (ih) x1 x2 x4 (h 38 (x4.toNatClampNeg)) hP hR) ⟨rfl, rfl, rfl, rfl, trivial⟩
def FX12_toldThread (a0 : Int32) (a1 : Int32) (h : ph_H) : Int32 := FX12_toldThread_5 2000 a0 a1 0 0 h
def PX12_toldThread (a0 : Int32) (a1 : Int32) (h : ph_H) : Prop := PX12_toldThread_5 2000 a0 a1 0 0 h
set_option maxRecDepth 100000 in
set_option maxHeartbeats 4000000 in
theorem tX12_toldThread {X : fj_X} {Y : fj_Y} {l0 : Launch} {ad : Nat → Nat} (C : FC X Y l0 cX12_toldThread 5 RX12 ({ frames := 0, cells := 0, slots := 0, locals := 0 } : Room) 0 0 (some .int)) (a0 : Int32) (a1 : Int32) (h : ph_H) (hP : PX12_toldThread a0 a1 h) (hR : RETp X Y ad 50 SM h cX12_toldThread (FX12_toldThread a0 a1 h)) : FJ X Y ad 50 SM h 0 [(0, .ref (ad 0)), (1, .int a0), (2, .int a1)] [] := by
  unfold PX12_toldThread at hP
  unfold FX12_toldThread at hR
  refine j_iconst (v := 0) C dX12_toldThread_0 (by decide) ?_
  refine j_istore_n C dX12_toldThread_1 rfl (by decide) rfl ?_
  refine j_iconst (v := 0) C dX12_toldThread_2 (by decide) ?_
  refine j_istore C dX12_toldThread_3 (by decide) rfl ?_
  exact j_vl (tX12_toldThread_5 C h 2000 a0 a1 0 0 hP hR) ⟨rfl, rfl, rfl, rfl, rfl, trivial⟩
theorem MX12_toldThread {l0 : Launch} {Y : fj_Y} {ad : Nat → Nat} (a0 : Int32) (a1 : Int32) (h : ph_H) (hP : PX12_toldThread a0 a1 h) : MI l0 yX12_toldThread cX12_toldThread 5 (some .int) ({ frames := 0, cells := 0, slots := 0, locals := 0 } : Room) Y ad 50 SM h [.ref (ad 0), .int a0, .int a1] (fun r S' h' => S' = SM ∧ h' = h ∧ r = FX12_toldThread a0 a1 h) := met_i (by decide) (Nat.le_of_ble_eq_true rfl) (fun _ _ _ _ => rfl) (fun X C K => j_vl (tX12_toldThread C a0 a1 h hP (fun pc lv hd => K _ _ _ ⟨rfl, rfl, rfl⟩ pc lv hd)) ⟨rfl, rfl, rfl, trivial⟩)

-- X12_play
def FX12_play_242 (L83 : Int32 → Int32 → ph_H → Int32 × ph_H) (x1 : Int32) (x3 : Int32) (h : ph_H) : Int32 × ph_H := L83 x1 x3 h
def PX12_play_242 (LP83 : Int32 → Int32 → ph_H → Prop) (x1 : Int32) (x3 : Int32) (h : ph_H) : Prop := LP83 x1 x3 h
set_option maxRecDepth 100000 in
set_option maxHeartbeats 4000000 in
theorem tX12_play_242 {X : fj_X} {Y : fj_Y} {l0 : Launch} {ad : Nat → Nat} (C : FC X Y l0 cX12_play 6 RX12 ({ frames := 4, cells := 0, slots := 0, locals := 100 } : Room) 0 0 (some .int)) (L83 : Int32 → Int32 → ph_H → Int32 × ph_H) (LP83 : Int32 → Int32 → ph_H → Prop) (hL83 : ∀ (x1 : Int32) (x3 : Int32) (h : ph_H), LP83 x1 x3 h → RETi X Y ad 50 SM cX12_play (L83 x1 x3 h) → FJ X Y ad 50 SM h 83 [(0, .ref (ad 0)), (1, .int x1), (3, .int x3)] []) (x1 : Int32) (x3 : Int32) (h : ph_H) (hP : PX12_play_242 LP83 x1 x3 h) (hR : RETi X Y ad 50 SM cX12_play (FX12_play_242 L83 x1 x3 h)) : FJ X Y ad 50 SM h 242 [(0, .ref (ad 0)), (1, .int x1), (3, .int x3)] [] := by
  unfold PX12_play_242 at hP
  unfold FX12_play_242 at hR
  refine j_goto (tgt := 83) C dX12_play_242 (by decide) ?_
  exact j_vl (hL83 x1 x3 h hP hR) ⟨rfl, rfl, rfl, trivial⟩
def FX12_play_203 (L83 : Int32 → Int32 → ph_H → Int32 × ph_H) (x1 : Int32) (x3 : Int32) (s0 : Int32) (h : ph_H) : Int32 × ph_H := FX12_play_242 L83 x1 x3 (hs h 0 66 s0)
def PX12_play_203 (LP83 : Int32 → Int32 → ph_H → Prop) (x1 : Int32) (x3 : Int32) (s0 : Int32) (h : ph_H) : Prop := PX12_play_242 LP83 x1 x3 (hs h 0 66 s0)
set_option maxRecDepth 100000 in
set_option maxHeartbeats 4000000 in
theorem tX12_play_203 {X : fj_X} {Y : fj_Y} {l0 : Launch} {ad : Nat → Nat} (C : FC X Y l0 cX12_play 6 RX12 ({ frames := 4, cells := 0, slots := 0, locals := 100 } : Room) 0 0 (some .int)) (L83 : Int32 → Int32 → ph_H → Int32 × ph_H) (LP83 : Int32 → Int32 → ph_H → Prop) (hL83 : ∀ (x1 : Int32) (x3 : Int32) (h : ph_H), LP83 x1 x3 h → RETi X Y ad 50 SM cX12_play (L83 x1 x3 h) → FJ X Y ad 50 SM h 83 [(0, .ref (ad 0)), (1, .int x1), (3, .int x3)] []) (x1 : Int32) (x3 : Int32) (s0 : Int32) (h : ph_H) (hP : PX12_play_203 LP83 x1 x3 s0 h) (hR : RETi X Y ad 50 SM cX12_play (FX12_play_203 L83 x1 x3 s0 h)) : FJ X Y ad 50 SM h 203 [(0, .ref (ad 0)), (1, .int x1), (3, .int x3)] [.int s0, .ref (ad 0)] := by
  unfold PX12_play_203 at hP
  unfold FX12_play_203 at hR
  refine pM_130 C dX12_play_203 ?_
  refine j_goto (tgt := 242) C dX12_play_206 (by decide) ?_
  exact j_vl (tX12_play_242 C L83 LP83 hL83 x1 x3 (hs h 0 66 s0) hP hR) ⟨rfl, rfl, rfl, trivial⟩
def FX12_play_239 (L83 : Int32 → Int32 → ph_H → Int32 × ph_H) (x1 : Int32) (x3 : Int32) (s0 : Int32) (h : ph_H) : Int32 × ph_H := FX12_play_242 L83 x1 x3 (hs h 0 66 s0)
def PX12_play_239 (LP83 : Int32 → Int32 → ph_H → Prop) (x1 : Int32) (x3 : Int32) (s0 : Int32) (h : ph_H) : Prop := PX12_play_242 LP83 x1 x3 (hs h 0 66 s0)
set_option maxRecDepth 100000 in
set_option maxHeartbeats 4000000 in
theorem tX12_play_239 {X : fj_X} {Y : fj_Y} {l0 : Launch} {ad : Nat → Nat} (C : FC X Y l0 cX12_play 6 RX12 ({ frames := 4, cells := 0, slots := 0, locals := 100 } : Room) 0 0 (some .int)) (L83 : Int32 → Int32 → ph_H → Int32 × ph_H) (LP83 : Int32 → Int32 → ph_H → Prop) (hL83 : ∀ (x1 : Int32) (x3 : Int32) (h : ph_H), LP83 x1 x3 h → RETi X Y ad 50 SM cX12_play (L83 x1 x3 h) → FJ X Y ad 50 SM h 83 [(0, .ref (ad 0)), (1, .int x1), (3, .int x3)] []) (x1 : Int32) (x3 : Int32) (s0 : Int32) (h : ph_H) (hP : PX12_play_239 LP83 x1 x3 s0 h) (hR : RETi X Y ad 50 SM cX12_play (FX12_play_239 L83 x1 x3 s0 h)) : FJ X Y ad 50 SM h 239 [(0, .ref (ad 0)), (1, .int x1), (3, .int x3)] [.int s0, .ref (ad 0)] := by
  unfold PX12_play_239 at hP
  unfold FX12_play_239 at hR
  refine pM_130 C dX12_play_239 ?_
  exact j_vl (tX12_play_242 C L83 LP83 hL83 x1 x3 (hs h 0 66 s0) hP hR) ⟨rfl, rfl, rfl, trivial⟩
def FX12_play_215 (L83 : Int32 → Int32 → ph_H → Int32 × ph_H) (x1 : Int32) (x3 : Int32) (h : ph_H) : Int32 × ph_H := if (h 0 35) = 0 then (if (h 0 25) ≤ 0 then (FX12_play_239 L83 x1 x3 (-1) h) else (FX12_play_239 L83 x1 x3 3 h)) else (FX12_play_239 L83 x1 x3 2 h)
def PX12_play_215 (LP83 : Int32 → Int32 → ph_H → Prop) (x1 : Int32) (x3 : Int32) (h : ph_H) : Prop := ((h 0 35) = 0 → (((h 0 25) ≤ 0 → (PX12_play_239 LP83 x1 x3 (-1) h)) ∧ (¬ (h 0 25) ≤ 0 → (PX12_play_239 LP83 x1 x3 3 h)))) ∧ (¬ (h 0 35) = 0 → (PX12_play_239 LP83 x1 x3 2 h))
set_option maxRecDepth 100000 in
set_option maxHeartbeats 4000000 in
theorem tX12_play_215 {X : fj_X} {Y : fj_Y} {l0 : Launch} {ad : Nat → Nat} (C : FC X Y l0 cX12_play 6 RX12 ({ frames := 4, cells := 0, slots := 0, locals := 100 } : Room) 0 0 (some .int)) (L83 : Int32 → Int32 → ph_H → Int32 × ph_H) (LP83 : Int32 → Int32 → ph_H → Prop) (hL83 : ∀ (x1 : Int32) (x3 : Int32) (h : ph_H), LP83 x1 x3 h → RETi X Y ad 50 SM cX12_play (L83 x1 x3 h) → FJ X Y ad 50 SM h 83 [(0, .ref (ad 0)), (1, .int x1), (3, .int x3)] []) (x1 : Int32) (x3 : Int32) (h : ph_H) (hP : PX12_play_215 LP83 x1 x3 h) (hR : RETi X Y ad 50 SM cX12_play (FX12_play_215 L83 x1 x3 h)) : FJ X Y ad 50 SM h 215 [(0, .ref (ad 0)), (1, .int x1), (3, .int x3)] [] := by
  unfold PX12_play_215 at hP
  unfold FX12_play_215 at hR
  refine j_aload_n C dX12_play_215 rfl rfl ?_
  refine j_aload_n C dX12_play_216 rfl rfl ?_
  refine gM_200 (v := (h 0 35)) C dX12_play_217 rfl ?_
  refine j_if_eq (tgt := 227) C dX12_play_220 (by decide) (fun c0 => ?_) (fun c0 => ?_)
  · have hP := hP.1 c0
    rw [if_pos c0] at hR
    refine j_aload_n C dX12_play_227 rfl rfl ?_
    refine gM_194 (v := (h 0 25)) C dX12_play_228 rfl ?_
    refine j_if_le (tgt := 238) C dX12_play_231 (by decide) (fun c1 => ?_) (fun c1 => ?_)
    · have hP := hP.1 c1
      rw [if_pos c1] at hR
      refine j_iconst (v := (-1)) C dX12_play_238 (by decide) ?_
      exact j_vl (tX12_play_239 C L83 LP83 hL83 x1 x3 (-1) h hP hR) ⟨rfl, rfl, rfl, trivial⟩
    · have hP := hP.2 c1
      rw [if_neg c1] at hR
      refine j_iconst (v := 3) C dX12_play_234 (by decide) ?_
      refine j_goto (tgt := 239) C dX12_play_235 (by decide) ?_
      exact j_vl (tX12_play_239 C L83 LP83 hL83 x1 x3 3 h hP hR) ⟨rfl, rfl, rfl, trivial⟩
  · have hP := hP.2 c0
    rw [if_neg c0] at hR
    refine j_iconst (v := 2) C dX12_play_223 (by decide) ?_
    refine j_goto (tgt := 239) C dX12_play_224 (by decide) ?_
    exact j_vl (tX12_play_239 C L83 LP83 hL83 x1 x3 2 h hP hR) ⟨rfl, rfl, rfl, trivial⟩
def FX12_play_166 (L83 : Int32 → Int32 → ph_H → Int32 × ph_H) (x1 : Int32) (x3 : Int32) (x5 : Int32) (h : ph_H) : Int32 × ph_H := if 0 ≤ x5 then (if (h 0 24) = 300 then (if (FX12_free 0 h) < 0 then (FX12_play_203 L83 x1 x3 0 h) else (FX12_play_203 L83 x1 x3 4 h)) else (FX12_play_215 L83 x1 x3 (FX12_step x5 h))) else (FX12_play_242 L83 x1 x3 (hs h 0 66 0))
def PX12_play_166 (LP83 : Int32 → Int32 → ph_H → Prop) (x1 : Int32) (x3 : Int32) (x5 : Int32) (h : ph_H) : Prop := (0 ≤ x5 → (((h 0 24) = 300 → ((PX12_free 0 h) ∧ (((FX12_free 0 h) < 0 → (PX12_play_203 LP83 x1 x3 0 h)) ∧ (¬ (FX12_free 0 h) < 0 → (PX12_play_203 LP83 x1 x3 4 h))))) ∧ (¬ (h 0 24) = 300 → ((PX12_step x5 h) ∧ (PX12_play_215 LP83 x1 x3 (FX12_step x5 h)))))) ∧ (¬ 0 ≤ x5 → (PX12_play_242 LP83 x1 x3 (hs h 0 66 0)))
set_option maxRecDepth 100000 in
set_option maxHeartbeats 4000000 in
theorem tX12_play_166 {X : fj_X} {Y : fj_Y} {l0 : Launch} {ad : Nat → Nat} (C : FC X Y l0 cX12_play 6 RX12 ({ frames := 4, cells := 0, slots := 0, locals := 100 } : Room) 0 0 (some .int)) (L83 : Int32 → Int32 → ph_H → Int32 × ph_H) (LP83 : Int32 → Int32 → ph_H → Prop) (hL83 : ∀ (x1 : Int32) (x3 : Int32) (h : ph_H), LP83 x1 x3 h → RETi X Y ad 50 SM cX12_play (L83 x1 x3 h) → FJ X Y ad 50 SM h 83 [(0, .ref (ad 0)), (1, .int x1), (3, .int x3)] []) (x1 : Int32) (x3 : Int32) (x5 : Int32) (h : ph_H) (hP : PX12_play_166 LP83 x1 x3 x5 h) (hR : RETi X Y ad 50 SM cX12_play (FX12_play_166 L83 x1 x3 x5 h)) : FJ X Y ad 50 SM h 166 [(0, .ref (ad 0)), (1, .int x1), (3, .int x3), (5, .int x5)] [] := by
  unfold PX12_play_166 at hP
  unfold FX12_play_166 at hR
  refine j_iload C dX12_play_166 rfl ?_
  refine j_if_ge (tgt := 179) C dX12_play_168 (by decide) (fun c0 => ?_) (fun c0 => ?_)
  · have hP := hP.1 c0
    rw [if_pos c0] at hR
    refine j_aload_n C dX12_play_179 rfl rfl ?_
    refine gM_191 (v := (h 0 24)) C dX12_play_180 rfl ?_
    refine j_sipush (v := 300) C dX12_play_183 (by decide) ?_
    refine j_icmp_ne (tgt := 209) C dX12_play_186 (by decide) (fun c1 => ?_) (fun c1 => ?_)
    · have hP := hP.2 c1
      rw [if_neg c1] at hR
      refine j_aload_n C dX12_play_209 rfl rfl ?_
      refine j_iload C dX12_play_210 rfl ?_
      obtain ⟨p2, hP⟩ := hP
      refine j_callVv C (MX12_step x5 h p2) dX12_play_212 (CKX12_step (by decide)) ⟨rfl, rfl⟩ lk_RX12_275 in_X12_step se_X12_step (by decide) rfl rfl rfl (Nat.le_of_ble_eq_true rfl) ?_
      intro S' h' hq
      obtain ⟨rfl, rfl⟩ := hq
      exact j_vl (tX12_play_215 C L83 LP83 hL83 x1 x3 (FX12_step x5 h) hP hR) ⟨rfl, rfl, rfl, trivial⟩
    · have hP := hP.1 c1
      rw [if_pos c1] at hR
      refine j_aload_n C dX12_play_189 rfl rfl ?_
      refine j_aload_n C dX12_play_190 rfl rfl ?_
      refine j_iconst (v := 0) C dX12_play_191 (by decide) ?_
      obtain ⟨p3, hP⟩ := hP
      refine j_callV C (MX12_free 0 h p3) dX12_play_192 (CKX12_free (by decide)) ⟨rfl, rfl⟩ lk_RX12_282 in_X12_free se_X12_free (by decide) rfl rfl rfl (Nat.le_of_ble_eq_true rfl) ?_
      intro r S' h' hq
      obtain ⟨rfl, hh, rfl⟩ := hq
      rw [hh]
      refine j_if_lt (tgt := 202) C dX12_play_195 (by decide) (fun c2 => ?_) (fun c2 => ?_)
      · have hP := hP.1 c2
        rw [if_pos c2] at hR
        refine j_iconst (v := 0) C dX12_play_202 (by decide) ?_
        exact j_vl (tX12_play_203 C L83 LP83 hL83 x1 x3 0 h hP hR) ⟨rfl, rfl, rfl, trivial⟩
      · have hP := hP.2 c2
        rw [if_neg c2] at hR
        refine j_iconst (v := 4) C dX12_play_198 (by decide) ?_
        refine j_goto (tgt := 203) C dX12_play_199 (by decide) ?_
        exact j_vl (tX12_play_203 C L83 LP83 hL83 x1 x3 4 h hP hR) ⟨rfl, rfl, rfl, trivial⟩
  · have hP := hP.2 c0
    rw [if_neg c0] at hR
    refine j_aload_n C dX12_play_171 rfl rfl ?_
    refine j_iconst (v := 0) C dX12_play_172 (by decide) ?_
    refine pM_130 C dX12_play_173 ?_
    refine j_goto (tgt := 242) C dX12_play_176 (by decide) ?_
    exact j_vl (tX12_play_242 C L83 LP83 hL83 x1 x3 (hs h 0 66 0) hP hR) ⟨rfl, rfl, rfl, trivial⟩
def FX12_play_132 (L83 : Int32 → Int32 → ph_H → Int32 × ph_H) (x1 : Int32) (x3 : Int32) (x4 : Int32) (s0 : Int32) (h : ph_H) : Int32 × ph_H := if x4 = 0 then (FX12_play_166 L83 x1 x3 s0 h) else (if 300 ≤ (h 0 24) then (FX12_play_166 L83 x1 x3 s0 h) else (if (FX12_canGo s0 h) = 0 then (FX12_play_242 L83 x1 x3 (hs h 0 66 1)) else (FX12_play_166 L83 x1 x3 s0 h)))
def PX12_play_132 (LP83 : Int32 → Int32 → ph_H → Prop) (x1 : Int32) (x3 : Int32) (x4 : Int32) (s0 : Int32) (h : ph_H) : Prop := (x4 = 0 → (PX12_play_166 LP83 x1 x3 s0 h)) ∧ (¬ x4 = 0 → ((300 ≤ (h 0 24) → (PX12_play_166 LP83 x1 x3 s0 h)) ∧ (¬ 300 ≤ (h 0 24) → ((PX12_canGo s0 h) ∧ (((FX12_canGo s0 h) = 0 → (PX12_play_242 LP83 x1 x3 (hs h 0 66 1))) ∧ (¬ (FX12_canGo s0 h) = 0 → (PX12_play_166 LP83 x1 x3 s0 h)))))))
set_option maxRecDepth 100000 in
set_option maxHeartbeats 4000000 in
theorem tX12_play_132 {X : fj_X} {Y : fj_Y} {l0 : Launch} {ad : Nat → Nat} (C : FC X Y l0 cX12_play 6 RX12 ({ frames := 4, cells := 0, slots := 0, locals := 100 } : Room) 0 0 (some .int)) (L83 : Int32 → Int32 → ph_H → Int32 × ph_H) (LP83 : Int32 → Int32 → ph_H → Prop) (hL83 : ∀ (x1 : Int32) (x3 : Int32) (h : ph_H), LP83 x1 x3 h → RETi X Y ad 50 SM cX12_play (L83 x1 x3 h) → FJ X Y ad 50 SM h 83 [(0, .ref (ad 0)), (1, .int x1), (3, .int x3)] []) (x1 : Int32) (x3 : Int32) (x4 : Int32) (s0 : Int32) (h : ph_H) (hP : PX12_play_132 LP83 x1 x3 x4 s0 h) (hR : RETi X Y ad 50 SM cX12_play (FX12_play_132 L83 x1 x3 x4 s0 h)) : FJ X Y ad 50 SM h 132 [(0, .ref (ad 0)), (1, .int x1), (3, .int x3), (4, .int x4)] [.int s0] := by
  unfold PX12_play_132 at hP
  unfold FX12_play_132 at hR
  refine j_istore C dX12_play_132 (by decide) rfl ?_
  refine j_iload C dX12_play_134 rfl ?_
  refine j_if_eq (tgt := 166) C dX12_play_136 (by decide) (fun c0 => ?_) (fun c0 => ?_)
  · have hP := hP.1 c0
    rw [if_pos c0] at hR
    exact j_vl (tX12_play_166 C L83 LP83 hL83 x1 x3 s0 h hP hR) ⟨rfl, rfl, rfl, rfl, trivial⟩
  · have hP := hP.2 c0
    rw [if_neg c0] at hR
    refine j_aload_n C dX12_play_139 rfl rfl ?_
    refine gM_191 (v := (h 0 24)) C dX12_play_140 rfl ?_
    refine j_sipush (v := 300) C dX12_play_143 (by decide) ?_
    refine j_icmp_ge (tgt := 166) C dX12_play_146 (by decide) (fun c1 => ?_) (fun c1 => ?_)
    · have hP := hP.1 c1
      rw [if_pos c1] at hR
      exact j_vl (tX12_play_166 C L83 LP83 hL83 x1 x3 s0 h hP hR) ⟨rfl, rfl, rfl, rfl, trivial⟩
    · have hP := hP.2 c1
      rw [if_neg c1] at hR
      refine j_aload_n C dX12_play_149 rfl rfl ?_
      refine j_iload C dX12_play_150 rfl ?_
      obtain ⟨p2, hP⟩ := hP
      refine j_callV C (MX12_canGo s0 h p2) dX12_play_152 (CKX12_canGo (by decide)) ⟨rfl, rfl⟩ lk_RX12_215 in_X12_canGo se_X12_canGo (by decide) rfl rfl rfl (Nat.le_of_ble_eq_true rfl) ?_
      intro r S' h' hq
      obtain ⟨rfl, hh, rfl, hb4⟩ := hq
      rw [hh]
      refine j_if_ne (tgt := 166) C dX12_play_155 (by decide) (fun c2 => ?_) (fun c2 => ?_)
      · have hP := hP.2 c2
        rw [if_neg c2] at hR
        exact j_vl (tX12_play_166 C L83 LP83 hL83 x1 x3 s0 h hP hR) ⟨rfl, rfl, rfl, rfl, trivial⟩
      · have hP := hP.1 c2
        rw [if_pos c2] at hR
        refine j_aload_n C dX12_play_158 rfl rfl ?_
        refine j_iconst (v := 1) C dX12_play_159 (by decide) ?_
        refine pM_130 C dX12_play_160 ?_
        refine j_goto (tgt := 242) C dX12_play_163 (by decide) ?_
        exact j_vl (tX12_play_242 C L83 LP83 hL83 x1 x3 (hs h 0 66 1) hP hR) ⟨rfl, rfl, rfl, trivial⟩
def FX12_play_103 (L83 : Int32 → Int32 → ph_H → Int32 × ph_H) (x1 : Int32) (x3 : Int32) (s0 : Int32) (h : ph_H) : Int32 × ph_H := if s0 = 0 then (FX12_play_132 L83 x1 x3 s0 (FX12_free (h 0 26) h) h) else (FX12_play_132 L83 x1 x3 s0 (FX12_toldThread x1 ((h 0 24) + 1) h) h)
def PX12_play_103 (LP83 : Int32 → Int32 → ph_H → Prop) (x1 : Int32) (x3 : Int32) (s0 : Int32) (h : ph_H) : Prop := (s0 = 0 → ((PX12_free (h 0 26) h) ∧ (PX12_play_132 LP83 x1 x3 s0 (FX12_free (h 0 26) h) h))) ∧ (¬ s0 = 0 → ((PX12_toldThread x1 ((h 0 24) + 1) h) ∧ (PX12_play_132 LP83 x1 x3 s0 (FX12_toldThread x1 ((h 0 24) + 1) h) h)))
set_option maxRecDepth 100000 in
set_option maxHeartbeats 4000000 in
theorem tX12_play_103 {X : fj_X} {Y : fj_Y} {l0 : Launch} {ad : Nat → Nat} (C : FC X Y l0 cX12_play 6 RX12 ({ frames := 4, cells := 0, slots := 0, locals := 100 } : Room) 0 0 (some .int)) (L83 : Int32 → Int32 → ph_H → Int32 × ph_H) (LP83 : Int32 → Int32 → ph_H → Prop) (hL83 : ∀ (x1 : Int32) (x3 : Int32) (h : ph_H), LP83 x1 x3 h → RETi X Y ad 50 SM cX12_play (L83 x1 x3 h) → FJ X Y ad 50 SM h 83 [(0, .ref (ad 0)), (1, .int x1), (3, .int x3)] []) (x1 : Int32) (x3 : Int32) (s0 : Int32) (h : ph_H) (hP : PX12_play_103 LP83 x1 x3 s0 h) (hR : RETi X Y ad 50 SM cX12_play (FX12_play_103 L83 x1 x3 s0 h)) : FJ X Y ad 50 SM h 103 [(0, .ref (ad 0)), (1, .int x1), (3, .int x3)] [.int s0] := by
  unfold PX12_play_103 at hP
  unfold FX12_play_103 at hR
  refine j_istore C dX12_play_103 (by decide) rfl ?_
  refine j_iload C dX12_play_105 rfl ?_
  refine j_if_eq (tgt := 124) C dX12_play_107 (by decide) (fun c0 => ?_) (fun c0 => ?_)
  · have hP := hP.1 c0
    rw [if_pos c0] at hR
    refine j_aload_n C dX12_play_124 rfl rfl ?_
    refine j_aload_n C dX12_play_125 rfl rfl ?_
    refine gM_197 (v := (h 0 26)) C dX12_play_126 rfl ?_
    obtain ⟨p3, hP⟩ := hP
    refine j_callV C (MX12_free (h 0 26) h p3) dX12_play_129 (CKX12_free (by decide)) ⟨rfl, rfl⟩ lk_RX12_282 in_X12_free se_X12_free (by decide) rfl rfl rfl (Nat.le_of_ble_eq_true rfl) ?_
    intro r S' h' hq
    obtain ⟨rfl, hh, rfl⟩ := hq
    rw [hh]
    exact j_vl (tX12_play_132 C L83 LP83 hL83 x1 x3 s0 (FX12_free (h 0 26) h) h hP hR) ⟨rfl, rfl, rfl, rfl, trivial⟩
  · have hP := hP.2 c0
    rw [if_neg c0] at hR
    refine j_aload_n C dX12_play_110 rfl rfl ?_
    refine j_iload_n C dX12_play_111 rfl rfl ?_
    refine j_aload_n C dX12_play_112 rfl rfl ?_
    refine gM_191 (v := (h 0 24)) C dX12_play_113 rfl ?_
    refine j_iconst (v := 1) C dX12_play_116 (by decide) ?_
    refine j_iadd C dX12_play_117 ?_
    obtain ⟨p6, hP⟩ := hP
    refine j_callV C (MX12_toldThread x1 ((h 0 24) + 1) h p6) dX12_play_118 (CKX12_toldThread (by decide)) ⟨rfl, rfl⟩ lk_RX12_319 in_X12_toldThread se_X12_toldThread (by decide) rfl rfl rfl (Nat.le_of_ble_eq_true rfl) ?_
    intro r S' h' hq
    obtain ⟨rfl, hh, rfl⟩ := hq
    rw [hh]
    refine j_goto (tgt := 132) C dX12_play_121 (by decide) ?_
    exact j_vl (tX12_play_132 C L83 LP83 hL83 x1 x3 s0 (FX12_toldThread x1 ((h 0 24) + 1) h) h hP hR) ⟨rfl, rfl, rfl, rfl, trivial⟩
def FX12_play_83  : Nat → Int32 → Int32 → ph_H → Int32 × ph_H
  | 0, _, _, h => (0, h)
  | q + 1, x1, x3, h => if 0 ≤ (h 0 66) then (((h 0 24), (hs h 0 33 0))) else (if x3 ≤ (h 0 24) then (FX12_play_103 (FX12_play_83  q) x1 x3 0 h) else (FX12_play_103 (FX12_play_83  q) x1 x3 1 h))
def PX12_play_83  : Nat → Int32 → Int32 → ph_H → Prop
  | 0, _, _, _ => False
  | q + 1, x1, x3, h => (0 ≤ (h 0 66) → (True)) ∧ (¬ 0 ≤ (h 0 66) → ((x3 ≤ (h 0 24) → (PX12_play_103 (PX12_play_83  q) x1 x3 0 h)) ∧ (¬ x3 ≤ (h 0 24) → (PX12_play_103 (PX12_play_83  q) x1 x3 1 h))))
set_option maxRecDepth 100000 in
set_option maxHeartbeats 4000000 in
theorem tX12_play_83 {X : fj_X} {Y : fj_Y} {l0 : Launch} {ad : Nat → Nat} (C : FC X Y l0 cX12_play 6 RX12 ({ frames := 4, cells := 0, slots := 0, locals := 100 } : Room) 0 0 (some .int)) : ∀ (q : Nat) (x1 : Int32) (x3 : Int32) (h : ph_H), PX12_play_83  q x1 x3 h → RETi X Y ad 50 SM cX12_play (FX12_play_83  q x1 x3 h) → FJ X Y ad 50 SM h 83 [(0, .ref (ad 0)), (1, .int x1), (3, .int x3)] [] := by
  intro q
  induction q with
  | zero =>
    intro x1 x3 h hP hR
    exact absurd hP id
  | succ q ih =>
    intro x1 x3 h hP hR
    unfold PX12_play_83 at hP
    unfold FX12_play_83 at hR
    refine j_aload_n C dX12_play_83 rfl rfl ?_
    refine gM_130 (v := (h 0 66)) C dX12_play_84 rfl ?_
    refine j_if_ge (tgt := 245) C dX12_play_87 (by decide) (fun c0 => ?_) (fun c0 => ?_)
    · have hP := hP.1 c0
      rw [if_pos c0] at hR
      refine j_aload_n C dX12_play_245 rfl rfl ?_
      refine j_iconst (v := 0) C dX12_play_246 (by decide) ?_
      refine pM_218 C dX12_play_247 bo_0 ?_
      refine j_aload_n C dX12_play_250 rfl rfl ?_
      refine gM_191 (v := (h 0 24)) C dX12_play_251 (hz_i (by decide)) ?_
      exact hR _ _ dX12_play_254
    · have hP := hP.2 c0
      rw [if_neg c0] at hR
      refine j_aload_n C dX12_play_90 rfl rfl ?_
      refine gM_191 (v := (h 0 24)) C dX12_play_91 rfl ?_
      refine j_iload_n C dX12_play_94 rfl rfl ?_
      refine j_icmp_ge (tgt := 102) C dX12_play_95 (by decide) (fun c1 => ?_) (fun c1 => ?_)
      · have hP := hP.1 c1
        rw [if_pos c1] at hR
        refine j_iconst (v := 0) C dX12_play_102 (by decide) ?_
        exact j_vl (tX12_play_103 C (FX12_play_83  q) (PX12_play_83  q) (ih) x1 x3 0 h hP hR) ⟨rfl, rfl, rfl, trivial⟩
      · have hP := hP.2 c1
        rw [if_neg c1] at hR
        refine j_iconst (v := 1) C dX12_play_98 (by decide) ?_
        refine j_goto (tgt := 103) C dX12_play_99 (by decide) ?_
        exact j_vl (tX12_play_103 C (FX12_play_83  q) (PX12_play_83  q) (ih) x1 x3 1 h hP hR) ⟨rfl, rfl, rfl, trivial⟩
def FX12_play_82  (x1 : Int32) (s0 : Int32) (h : ph_H) : Int32 × ph_H := FX12_play_83 2000 x1 s0 h
def PX12_play_82  (x1 : Int32) (s0 : Int32) (h : ph_H) : Prop := PX12_play_83 2000 x1 s0 h
set_option maxRecDepth 100000 in
set_option maxHeartbeats 4000000 in
theorem tX12_play_82 {X : fj_X} {Y : fj_Y} {l0 : Launch} {ad : Nat → Nat} (C : FC X Y l0 cX12_play 6 RX12 ({ frames := 4, cells := 0, slots := 0, locals := 100 } : Room) 0 0 (some .int)) (x1 : Int32) (s0 : Int32) (h : ph_H) (hP : PX12_play_82  x1 s0 h) (hR : RETi X Y ad 50 SM cX12_play (FX12_play_82  x1 s0 h)) : FJ X Y ad 50 SM h 82 [(0, .ref (ad 0)), (1, .int x1)] [.int s0] := by
  unfold PX12_play_82 at hP
  unfold FX12_play_82 at hR
  refine j_istore_n C dX12_play_82 rfl (by decide) rfl ?_
  exact j_vl (tX12_play_83 C 2000 x1 s0 h hP hR) ⟨rfl, rfl, rfl, trivial⟩
def FX12_play_59  (x1 : Int32) (h : ph_H) : Int32 × ph_H := if x1 = 0 then (FX12_play_82  x1 0 (hs h 0 66 (-1))) else (FX12_play_82  x1 ((h 37 ((x1 - 1).toNatClampNeg)) + 1) (hs h 0 66 (-1)))
def PX12_play_59  (x1 : Int32) (h : ph_H) : Prop := (x1 = 0 → (PX12_play_82  x1 0 (hs h 0 66 (-1)))) ∧ (¬ x1 = 0 → (vp_in (x1 - 1) 301 ∧ (PX12_play_82  x1 ((h 37 ((x1 - 1).toNatClampNeg)) + 1) (hs h 0 66 (-1)))))
set_option maxRecDepth 100000 in
set_option maxHeartbeats 4000000 in
theorem tX12_play_59 {X : fj_X} {Y : fj_Y} {l0 : Launch} {ad : Nat → Nat} (C : FC X Y l0 cX12_play 6 RX12 ({ frames := 4, cells := 0, slots := 0, locals := 100 } : Room) 0 0 (some .int)) (x1 : Int32) (h : ph_H) (hP : PX12_play_59  x1 h) (hR : RETi X Y ad 50 SM cX12_play (FX12_play_59  x1 h)) : FJ X Y ad 50 SM h 59 [(0, .ref (ad 0)), (1, .int x1)] [] := by
  unfold PX12_play_59 at hP
  unfold FX12_play_59 at hR
  refine j_aload_n C dX12_play_59 rfl rfl ?_
  refine j_iconst (v := (-1)) C dX12_play_60 (by decide) ?_
  refine pM_130 C dX12_play_61 ?_
  refine j_iload_n C dX12_play_64 rfl rfl ?_
  refine j_if_ne (tgt := 72) C dX12_play_65 (by decide) (fun c0 => ?_) (fun c0 => ?_)
  · have hP := hP.2 c0
    rw [if_neg c0] at hR
    refine j_aload_n C dX12_play_72 rfl rfl ?_
    refine gM_120 C dX12_play_73 ?_
    refine j_iload_n C dX12_play_76 rfl rfl ?_
    refine j_iconst (v := 1) C dX12_play_77 (by decide) ?_
    refine j_isub C dX12_play_78 ?_
    obtain ⟨p5, hP⟩ := hP
    refine j_iald (k := 37) (v := (h 37 ((x1 - 1).toNatClampNeg))) C dX12_play_79 (by decide) rfl p5 (hz_k (by decide)) ?_
    refine j_iconst (v := 1) C dX12_play_80 (by decide) ?_
    refine j_iadd C dX12_play_81 ?_
    exact j_vl (tX12_play_82 C  x1 ((h 37 ((x1 - 1).toNatClampNeg)) + 1) (hs h 0 66 (-1)) hP hR) ⟨rfl, rfl, trivial⟩
  · have hP := hP.1 c0
    rw [if_pos c0] at hR
    refine j_iconst (v := 0) C dX12_play_68 (by decide) ?_
    refine j_goto (tgt := 82) C dX12_play_69 (by decide) ?_
    exact j_vl (tX12_play_82 C  x1 0 (hs h 0 66 (-1)) hP hR) ⟨rfl, rfl, trivial⟩
def FX12_play (a0 : Int32) (a1 : Int32) (h : ph_H) : Int32 × ph_H := if (h 0 36) = 0 then (((-2), (hs h 0 0 0))) else (if (FX12_isIn a0.toInt64 0 ((h 0 60).toInt64)) = 0 then (((-1), (hs h 0 0 0))) else (if (FX12_isIn a1.toInt64 0 ((h 0 41).toInt64)) = 0 then (((-1), (hs h 0 0 0))) else (FX12_play_59  a0 (FX12_begin (hs (hs (hs h 0 0 0) 0 33 1) 0 34 a1)))))
def PX12_play (a0 : Int32) (a1 : Int32) (h : ph_H) : Prop := ((h 0 36) = 0 → (True)) ∧ (¬ (h 0 36) = 0 → ((PX12_isIn a0.toInt64 0 ((h 0 60).toInt64)) ∧ (((FX12_isIn a0.toInt64 0 ((h 0 60).toInt64)) = 0 → (True)) ∧ (¬ (FX12_isIn a0.toInt64 0 ((h 0 60).toInt64)) = 0 → ((PX12_isIn a1.toInt64 0 ((h 0 41).toInt64)) ∧ (((FX12_isIn a1.toInt64 0 ((h 0 41).toInt64)) = 0 → (True)) ∧ (¬ (FX12_isIn a1.toInt64 0 ((h 0 41).toInt64)) = 0 → ((PX12_begin (hs (hs (hs h 0 0 0) 0 33 1) 0 34 a1)) ∧ (PX12_play_59  a0 (FX12_begin (hs (hs (hs h 0 0 0) 0 33 1) 0 34 a1)))))))))))
set_option maxRecDepth 100000 in
set_option maxHeartbeats 4000000 in
theorem tX12_play {X : fj_X} {Y : fj_Y} {l0 : Launch} {ad : Nat → Nat} (C : FC X Y l0 cX12_play 6 RX12 ({ frames := 4, cells := 0, slots := 0, locals := 100 } : Room) 0 0 (some .int)) (a0 : Int32) (a1 : Int32) (h : ph_H) (hP : PX12_play a0 a1 h) (hR : RETi X Y ad 50 SM cX12_play (FX12_play a0 a1 h)) : FJ X Y ad 50 SM h 0 [(0, .ref (ad 0)), (1, .int a0), (2, .int a1)] [] := by
  unfold PX12_play at hP
  unfold FX12_play at hR
  refine j_aload_n C dX12_play_0 rfl rfl ?_
  refine j_iconst (v := 0) C dX12_play_1 (by decide) ?_
  refine pM_164 C dX12_play_2 ?_
  refine j_aload_n C dX12_play_5 rfl rfl ?_
  refine gM_294 (v := (h 0 36)) C dX12_play_6 (hz_i (by decide)) ?_
  refine j_if_ne (tgt := 15) C dX12_play_9 (by decide) (fun c0 => ?_) (fun c0 => ?_)
  · have hP := hP.2 c0
    rw [if_neg c0] at hR
    refine j_iload_n C dX12_play_15 rfl rfl ?_
    refine j_i2l C dX12_play_16 ?_
    refine j_lconst (v := 0) C dX12_play_17 (by decide) ?_
    refine j_aload_n C dX12_play_18 rfl rfl ?_
    refine gM_272 (v := (h 0 60)) C dX12_play_19 (hz_i (by decide)) ?_
    refine j_i2l C dX12_play_22 ?_
    obtain ⟨p6, hP⟩ := hP
    refine j_callS C (MX12_isIn a0.toInt64 0 ((h 0 60).toInt64) (hs h 0 0 0) p6) dX12_play_23 (CKX12_isIn (by decide)) ⟨rfl, rfl⟩ lk_RX12_169 st_X12_isIn rfl (Nat.le_of_ble_eq_true rfl) ?_
    intro r S' h' hq
    obtain ⟨rfl, hh, rfl, hb8⟩ := hq
    rw [hh]
    refine j_if_eq (tgt := 43) C dX12_play_26 (by decide) (fun c1 => ?_) (fun c1 => ?_)
    · have hP := hP.1 c1
      rw [if_pos c1] at hR
      refine j_iconst (v := (-1)) C dX12_play_43 (by decide) ?_
      exact hR _ _ dX12_play_44
    · have hP := hP.2 c1
      rw [if_neg c1] at hR
      refine j_iload_n C dX12_play_29 rfl rfl ?_
      refine j_i2l C dX12_play_30 ?_
      refine j_lconst (v := 0) C dX12_play_31 (by decide) ?_
      refine j_aload_n C dX12_play_32 rfl rfl ?_
      refine gM_313 (v := (h 0 41)) C dX12_play_33 (hz_i (by decide)) ?_
      refine j_i2l C dX12_play_36 ?_
      obtain ⟨p6, hP⟩ := hP
      refine j_callS C (MX12_isIn a1.toInt64 0 ((h 0 41).toInt64) (hs h 0 0 0) p6) dX12_play_37 (CKX12_isIn (by decide)) ⟨rfl, rfl⟩ lk_RX12_169 st_X12_isIn rfl (Nat.le_of_ble_eq_true rfl) ?_
      intro r S' h' hq
      obtain ⟨rfl, hh, rfl, hb8⟩ := hq
      rw [hh]
      refine j_if_ne (tgt := 45) C dX12_play_40 (by decide) (fun c2 => ?_) (fun c2 => ?_)
      · have hP := hP.2 c2
        rw [if_neg c2] at hR
        refine j_aload_n C dX12_play_45 rfl rfl ?_
        refine j_iconst (v := 1) C dX12_play_46 (by decide) ?_
        refine pM_218 C dX12_play_47 bo_1 ?_
        refine j_aload_n C dX12_play_50 rfl rfl ?_
        refine j_iload_n C dX12_play_51 rfl rfl ?_
        refine pM_250 C dX12_play_52 ?_
        refine j_aload_n C dX12_play_55 rfl rfl ?_
        obtain ⟨p7, hP⟩ := hP
        refine j_callVv C (MX12_begin (hs (hs (hs h 0 0 0) 0 33 1) 0 34 a1) p7) dX12_play_56 (CKX12_begin (by decide)) ⟨rfl, rfl⟩ lk_RX12_285 in_X12_begin se_X12_begin (by decide) rfl rfl rfl (Nat.le_of_ble_eq_true rfl) ?_
        intro S' h' hq
        obtain ⟨rfl, rfl⟩ := hq
        exact j_vl (tX12_play_59 C  a0 (FX12_begin (hs (hs (hs h 0 0 0) 0 33 1) 0 34 a1)) hP hR) ⟨rfl, rfl, trivial⟩
      · have hP := hP.1 c2
        rw [if_pos c2] at hR
        refine j_iconst (v := (-1)) C dX12_play_43 (by decide) ?_
        exact hR _ _ dX12_play_44
  · have hP := hP.1 c0
    rw [if_pos c0] at hR
    refine j_bipush (v := (-2)) C dX12_play_12 (by decide) ?_
    exact hR _ _ dX12_play_14
theorem MX12_play {l0 : Launch} {Y : fj_Y} {ad : Nat → Nat} (a0 : Int32) (a1 : Int32) (h : ph_H) (hP : PX12_play a0 a1 h) : MI l0 yX12_play cX12_play 6 (some .int) ({ frames := 4, cells := 0, slots := 0, locals := 100 } : Room) Y ad 50 SM h [.ref (ad 0), .int a0, .int a1] (fun r S' h' => S' = SM ∧ h' = (FX12_play a0 a1 h).2 ∧ r = (FX12_play a0 a1 h).1) := met_i (by decide) (Nat.le_of_ble_eq_true rfl) (fun _ _ _ _ => rfl) (fun X C K => j_vl (tX12_play C a0 a1 h hP (fun pc lv hd => K _ _ _ ⟨rfl, rfl, rfl⟩ pc lv hd)) ⟨rfl, rfl, rfl, trivial⟩)
