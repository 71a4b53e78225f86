-- X12_step
def FX12_step_154  (x1 : Int32) (h : ph_H) : ph_H := (hs (hs h 0 24 ((h 0 24) + 1)) 0 26 x1)
def PX12_step_154  (x1 : Int32) (h : ph_H) : Prop := True
set_option maxRecDepth 100000 in
set_option maxHeartbeats 4000000 in
theorem tX12_step_154 {X : fj_X} {Y : fj_Y} {l0 : Launch} {ad : Nat → Nat} (C : FC X Y l0 cX12_step 3 RX12 ({ frames := 3, cells := 0, slots := 0, locals := 78 } : Room) 0 0 none) (x1 : Int32) (h : ph_H) (hP : PX12_step_154  x1 h) (hR : RETv X Y ad 50 SM cX12_step (FX12_step_154  x1 h)) : FJ X Y ad 50 SM h 154 [(0, .ref (ad 0)), (1, .int x1)] [] := by
  unfold PX12_step_154 at hP
  unfold FX12_step_154 at hR
  refine j_aload_n C dX12_step_154 rfl rfl ?_
  refine j_dup C dX12_step_155 rfl ?_
  refine gM_191 (v := (h 0 24)) C dX12_step_156 rfl ?_
  refine j_iconst (v := 1) C dX12_step_159 (by decide) ?_
  refine j_iadd C dX12_step_160 ?_
  refine pM_191 C dX12_step_161 ?_
  refine j_aload_n C dX12_step_164 rfl rfl ?_
  refine j_iload_n C dX12_step_165 rfl rfl ?_
  refine pM_197 C dX12_step_166 ?_
  exact hR _ _ dX12_step_169
def FX12_step_110  (x1 : Int32) (h : ph_H) : ph_H := FX12_step_154  x1 h
def PX12_step_110  (x1 : Int32) (h : ph_H) : Prop := PX12_step_154  x1 h
set_option maxRecDepth 100000 in
set_option maxHeartbeats 4000000 in
theorem tX12_step_110 {X : fj_X} {Y : fj_Y} {l0 : Launch} {ad : Nat → Nat} (C : FC X Y l0 cX12_step 3 RX12 ({ frames := 3, cells := 0, slots := 0, locals := 78 } : Room) 0 0 none) (x1 : Int32) (h : ph_H) (hP : PX12_step_110  x1 h) (hR : RETv X Y ad 50 SM cX12_step (FX12_step_110  x1 h)) : FJ X Y ad 50 SM h 110 [(0, .ref (ad 0)), (1, .int x1)] [] := by
  unfold PX12_step_110 at hP
  unfold FX12_step_110 at hR
  refine j_goto (tgt := 154) C dX12_step_110 (by decide) ?_
  exact j_vl (tX12_step_154 C  x1 h hP hR) ⟨rfl, rfl, trivial⟩
def FX12_step_148  (x1 : Int32) (x2 : Int32) (h : ph_H) : ph_H := FX12_step_154  x1 (FX12_instruct x1 x2 h)
def PX12_step_148  (x1 : Int32) (x2 : Int32) (h : ph_H) : Prop := (PX12_instruct x1 x2 h) ∧ (PX12_step_154  x1 (FX12_instruct x1 x2 h))
set_option maxRecDepth 100000 in
set_option maxHeartbeats 4000000 in
theorem tX12_step_148 {X : fj_X} {Y : fj_Y} {l0 : Launch} {ad : Nat → Nat} (C : FC X Y l0 cX12_step 3 RX12 ({ frames := 3, cells := 0, slots := 0, locals := 78 } : Room) 0 0 none) (x1 : Int32) (x2 : Int32) (h : ph_H) (hP : PX12_step_148  x1 x2 h) (hR : RETv X Y ad 50 SM cX12_step (FX12_step_148  x1 x2 h)) : FJ X Y ad 50 SM h 148 [(0, .ref (ad 0)), (1, .int x1), (2, .int x2)] [] := by
  unfold PX12_step_148 at hP
  unfold FX12_step_148 at hR
  refine j_aload_n C dX12_step_148 rfl rfl ?_
  refine j_iload_n C dX12_step_149 rfl rfl ?_
  refine j_iload_n C dX12_step_150 rfl rfl ?_
  obtain ⟨p3, hP⟩ := hP
  refine j_callVv C (MX12_instruct x1 x2 h p3) dX12_step_151 (CKX12_instruct (by decide)) ⟨rfl, rfl⟩ lk_RX12_253 in_X12_instruct se_X12_instruct (by decide) rfl rfl rfl (Nat.le_of_ble_eq_true rfl) ?_
  intro S' h' hq
  obtain ⟨rfl, rfl⟩ := hq
  exact j_vl (tX12_step_154 C  x1 (FX12_instruct x1 x2 h) hP hR) ⟨rfl, rfl, trivial⟩
def FX12_step (a0 : Int32) (h : ph_H) : ph_H := if (h 15 (a0.toNatClampNeg)) < 0 then (if (h 2 (((24 * a0) + (h 12 (a0.toNatClampNeg))).toNatClampNeg)) = 16 then (if (h 0 33) = 0 then (FX12_step_148  a0 ((24 * a0) + (h 12 (a0.toNatClampNeg))) (hs (hs (hs (hs (hs (hs h 0 27 (h 12 (a0.toNatClampNeg))) 0 28 (h 2 (((24 * a0) + (h 12 (a0.toNatClampNeg))).toNatClampNeg))) 0 29 (-2)) 0 30 (-2)) 0 31 0) 0 32 (-1))) else (if (h 0 23) = (h 0 34) then ((hs (hs (hs (hs (hs (hs (hs h 0 27 (h 12 (a0.toNatClampNeg))) 0 28 (h 2 (((24 * a0) + (h 12 (a0.toNatClampNeg))).toNatClampNeg))) 0 29 (-2)) 0 30 (-2)) 0 31 0) 0 32 (-1)) 0 35 1)) else (FX12_step_148  a0 ((24 * a0) + (h 12 (a0.toNatClampNeg))) (hs (hs (hs (hs (hs (hs h 0 27 (h 12 (a0.toNatClampNeg))) 0 28 (h 2 (((24 * a0) + (h 12 (a0.toNatClampNeg))).toNatClampNeg))) 0 29 (-2)) 0 30 (-2)) 0 31 0) 0 32 (-1))))) else (FX12_step_148  a0 ((24 * a0) + (h 12 (a0.toNatClampNeg))) (hs (hs (hs (hs (hs (hs h 0 27 (h 12 (a0.toNatClampNeg))) 0 28 (h 2 (((24 * a0) + (h 12 (a0.toNatClampNeg))).toNatClampNeg))) 0 29 (-2)) 0 30 (-2)) 0 31 0) 0 32 (-1)))) else (FX12_step_110  a0 (FX12_goTo a0 ((h 12 (a0.toNatClampNeg)) + 1) (hs (hs (hs (hs (hs (hs (hs (hs (hs (hs h 0 27 (h 12 (a0.toNatClampNeg))) 0 28 (h 2 (((24 * a0) + (h 12 (a0.toNatClampNeg))).toNatClampNeg))) 0 29 (-2)) 0 30 (-2)) 0 31 0) 0 32 (-1)) 17 (h 15 (a0.toNatClampNeg)).toNatClampNeg a0) 0 31 1) 0 32 (h 15 (a0.toNatClampNeg))) 15 a0.toNatClampNeg (-1))))
def PX12_step (a0 : Int32) (h : ph_H) : Prop := vp_in a0 4 ∧ (vp_in a0 4 ∧ (vp_in ((24 * a0) + (h 12 (a0.toNatClampNeg))) 96 ∧ (vp_in a0 4 ∧ (((h 15 (a0.toNatClampNeg)) < 0 → (vp_in ((24 * a0) + (h 12 (a0.toNatClampNeg))) 96 ∧ (((h 2 (((24 * a0) + (h 12 (a0.toNatClampNeg))).toNatClampNeg)) = 16 → (((h 0 33) = 0 → (PX12_step_148  a0 ((24 * a0) + (h 12 (a0.toNatClampNeg))) (hs (hs (hs (hs (hs (hs h 0 27 (h 12 (a0.toNatClampNeg))) 0 28 (h 2 (((24 * a0) + (h 12 (a0.toNatClampNeg))).toNatClampNeg))) 0 29 (-2)) 0 30 (-2)) 0 31 0) 0 32 (-1)))) ∧ (¬ (h 0 33) = 0 → (((h 0 23) = (h 0 34) → (True)) ∧ (¬ (h 0 23) = (h 0 34) → (PX12_step_148  a0 ((24 * a0) + (h 12 (a0.toNatClampNeg))) (hs (hs (hs (hs (hs (hs h 0 27 (h 12 (a0.toNatClampNeg))) 0 28 (h 2 (((24 * a0) + (h 12 (a0.toNatClampNeg))).toNatClampNeg))) 0 29 (-2)) 0 30 (-2)) 0 31 0) 0 32 (-1)))))))) ∧ (¬ (h 2 (((24 * a0) + (h 12 (a0.toNatClampNeg))).toNatClampNeg)) = 16 → (PX12_step_148  a0 ((24 * a0) + (h 12 (a0.toNatClampNeg))) (hs (hs (hs (hs (hs (hs h 0 27 (h 12 (a0.toNatClampNeg))) 0 28 (h 2 (((24 * a0) + (h 12 (a0.toNatClampNeg))).toNatClampNeg))) 0 29 (-2)) 0 30 (-2)) 0 31 0) 0 32 (-1))))))) ∧ (¬ (h 15 (a0.toNatClampNeg)) < 0 → (vp_in a0 4 ∧ (vp_in (h 15 (a0.toNatClampNeg)) 12 ∧ (vp_in a0 4 ∧ (vp_in a0 4 ∧ (vp_in a0 4 ∧ ((PX12_goTo a0 ((h 12 (a0.toNatClampNeg)) + 1) (hs (hs (hs (hs (hs (hs (hs (hs (hs (hs h 0 27 (h 12 (a0.toNatClampNeg))) 0 28 (h 2 (((24 * a0) + (h 12 (a0.toNatClampNeg))).toNatClampNeg))) 0 29 (-2)) 0 30 (-2)) 0 31 0) 0 32 (-1)) 17 (h 15 (a0.toNatClampNeg)).toNatClampNeg a0) 0 31 1) 0 32 (h 15 (a0.toNatClampNeg))) 15 a0.toNatClampNeg (-1))) ∧ (PX12_step_110  a0 (FX12_goTo a0 ((h 12 (a0.toNatClampNeg)) + 1) (hs (hs (hs (hs (hs (hs (hs (hs (hs (hs h 0 27 (h 12 (a0.toNatClampNeg))) 0 28 (h 2 (((24 * a0) + (h 12 (a0.toNatClampNeg))).toNatClampNeg))) 0 29 (-2)) 0 30 (-2)) 0 31 0) 0 32 (-1)) 17 (h 15 (a0.toNatClampNeg)).toNatClampNeg a0) 0 31 1) 0 32 (h 15 (a0.toNatClampNeg))) 15 a0.toNatClampNeg (-1)))))))))))))))
set_option maxRecDepth 100000 in
set_option maxHeartbeats 4000000 in
theorem tX12_step {X : fj_X} {Y : fj_Y} {l0 : Launch} {ad : Nat → Nat} (C : FC X Y l0 cX12_step 3 RX12 ({ frames := 3, cells := 0, slots := 0, locals := 78 } : Room) 0 0 none) (a0 : Int32) (h : ph_H) (hP : PX12_step a0 h) (hR : RETv X Y ad 50 SM cX12_step (FX12_step a0 h)) : FJ X Y ad 50 SM h 0 [(0, .ref (ad 0)), (1, .int a0)] [] := by
  unfold PX12_step at hP
  unfold FX12_step at hR
  refine j_bipush (v := 24) C dX12_step_0 (by decide) ?_
  refine j_iload_n C dX12_step_2 rfl rfl ?_
  refine j_imul C dX12_step_3 ?_
  refine j_aload_n C dX12_step_4 rfl rfl ?_
  refine gM_43 C dX12_step_5 ?_
  refine j_iload_n C dX12_step_8 rfl rfl ?_
  obtain ⟨p6, hP⟩ := hP
  refine j_iald (k := 12) (v := (h 12 (a0.toNatClampNeg))) C dX12_step_9 (by decide) rfl p6 rfl ?_
  refine j_iadd C dX12_step_10 ?_
  refine j_istore_n C dX12_step_11 rfl (by decide) rfl ?_
  refine j_aload_n C dX12_step_12 rfl rfl ?_
  refine j_aload_n C dX12_step_13 rfl rfl ?_
  refine gM_43 C dX12_step_14 ?_
  refine j_iload_n C dX12_step_17 rfl rfl ?_
  obtain ⟨p14, hP⟩ := hP
  refine j_iald (k := 12) (v := (h 12 (a0.toNatClampNeg))) C dX12_step_18 (by decide) rfl p14 rfl ?_
  refine pM_240 C dX12_step_19 ?_
  refine j_aload_n C dX12_step_22 rfl rfl ?_
  refine j_aload_n C dX12_step_23 rfl rfl ?_
  refine gM_13 C dX12_step_24 ?_
  refine j_iload_n C dX12_step_27 rfl rfl ?_
  obtain ⟨p21, hP⟩ := hP
  refine j_iald (k := 2) (v := (h 2 (((24 * a0) + (h 12 (a0.toNatClampNeg))).toNatClampNeg))) C dX12_step_28 (by decide) rfl p21 (hz_k (by decide)) ?_
  refine pM_243 C dX12_step_29 ?_
  refine j_aload_n C dX12_step_32 rfl rfl ?_
  refine j_bipush (v := (-2)) C dX12_step_33 (by decide) ?_
  refine pM_228 C dX12_step_35 ?_
  refine j_aload_n C dX12_step_38 rfl rfl ?_
  refine j_bipush (v := (-2)) C dX12_step_39 (by decide) ?_
  refine pM_231 C dX12_step_41 ?_
  refine j_aload_n C dX12_step_44 rfl rfl ?_
  refine j_iconst (v := 0) C dX12_step_45 (by decide) ?_
  refine pM_234 C dX12_step_46 ?_
  refine j_aload_n C dX12_step_49 rfl rfl ?_
  refine j_iconst (v := (-1)) C dX12_step_50 (by decide) ?_
  refine pM_237 C dX12_step_51 ?_
  refine j_aload_n C dX12_step_54 rfl rfl ?_
  refine gM_53 C dX12_step_55 ?_
  refine j_iload_n C dX12_step_58 rfl rfl ?_
  obtain ⟨p39, hP⟩ := hP
  refine j_iald (k := 15) (v := (h 15 (a0.toNatClampNeg))) C dX12_step_59 (by decide) rfl p39 ((hz_k (by decide)).trans ((hz_k (by decide)).trans ((hz_k (by decide)).trans ((hz_k (by decide)).trans ((hz_k (by decide)).trans (hz_k (by decide))))))) ?_
  refine j_if_lt (tgt := 113) C dX12_step_60 (by decide) (fun c0 => ?_) (fun c0 => ?_)
  · have hP := hP.1 c0
    rw [if_pos c0] at hR
    refine j_aload_n C dX12_step_113 rfl rfl ?_
    refine gM_13 C dX12_step_114 ?_
    refine j_iload_n C dX12_step_117 rfl rfl ?_
    obtain ⟨p3, hP⟩ := hP
    refine j_iald (k := 2) (v := (h 2 (((24 * a0) + (h 12 (a0.toNatClampNeg))).toNatClampNeg))) C dX12_step_118 (by decide) rfl p3 ((hz_k (by decide)).trans ((hz_k (by decide)).trans ((hz_k (by decide)).trans ((hz_k (by decide)).trans ((hz_k (by decide)).trans (hz_k (by decide))))))) ?_
    refine j_bipush (v := 16) C dX12_step_119 (by decide) ?_
    refine j_icmp_ne (tgt := 148) C dX12_step_121 (by decide) (fun c1 => ?_) (fun c1 => ?_)
    · have hP := hP.2 c1
      rw [if_neg c1] at hR
      exact j_vl (tX12_step_148 C  a0 ((24 * a0) + (h 12 (a0.toNatClampNeg))) (hs (hs (hs (hs (hs (hs h 0 27 (h 12 (a0.toNatClampNeg))) 0 28 (h 2 (((24 * a0) + (h 12 (a0.toNatClampNeg))).toNatClampNeg))) 0 29 (-2)) 0 30 (-2)) 0 31 0) 0 32 (-1)) hP hR) ⟨rfl, rfl, rfl, trivial⟩
    · have hP := hP.1 c1
      rw [if_pos c1] at hR
      refine j_aload_n C dX12_step_124 rfl rfl ?_
      refine gM_218 (v := (h 0 33)) C dX12_step_125 ((hz_i (by decide)).trans ((hz_i (by decide)).trans ((hz_i (by decide)).trans ((hz_i (by decide)).trans ((hz_i (by decide)).trans (hz_i (by decide))))))) ?_
      refine j_if_eq (tgt := 148) C dX12_step_128 (by decide) (fun c2 => ?_) (fun c2 => ?_)
      · have hP := hP.1 c2
        rw [if_pos c2] at hR
        exact j_vl (tX12_step_148 C  a0 ((24 * a0) + (h 12 (a0.toNatClampNeg))) (hs (hs (hs (hs (hs (hs h 0 27 (h 12 (a0.toNatClampNeg))) 0 28 (h 2 (((24 * a0) + (h 12 (a0.toNatClampNeg))).toNatClampNeg))) 0 29 (-2)) 0 30 (-2)) 0 31 0) 0 32 (-1)) hP hR) ⟨rfl, rfl, rfl, trivial⟩
      · have hP := hP.2 c2
        rw [if_neg c2] at hR
        refine j_aload_n C dX12_step_131 rfl rfl ?_
        refine gM_188 (v := (h 0 23)) C dX12_step_132 ((hz_i (by decide)).trans ((hz_i (by decide)).trans ((hz_i (by decide)).trans ((hz_i (by decide)).trans ((hz_i (by decide)).trans (hz_i (by decide))))))) ?_
        refine j_aload_n C dX12_step_135 rfl rfl ?_
        refine gM_250 (v := (h 0 34)) C dX12_step_136 ((hz_i (by decide)).trans ((hz_i (by decide)).trans ((hz_i (by decide)).trans ((hz_i (by decide)).trans ((hz_i (by decide)).trans (hz_i (by decide))))))) ?_
        refine j_icmp_ne (tgt := 148) C dX12_step_139 (by decide) (fun c3 => ?_) (fun c3 => ?_)
        · have hP := hP.2 c3
          rw [if_neg c3] at hR
          exact j_vl (tX12_step_148 C  a0 ((24 * a0) + (h 12 (a0.toNatClampNeg))) (hs (hs (hs (hs (hs (hs h 0 27 (h 12 (a0.toNatClampNeg))) 0 28 (h 2 (((24 * a0) + (h 12 (a0.toNatClampNeg))).toNatClampNeg))) 0 29 (-2)) 0 30 (-2)) 0 31 0) 0 32 (-1)) hP hR) ⟨rfl, rfl, rfl, trivial⟩
        · have hP := hP.1 c3
          rw [if_pos c3] at hR
          refine j_aload_n C dX12_step_142 rfl rfl ?_
          refine j_iconst (v := 1) C dX12_step_143 (by decide) ?_
          refine pM_200 C dX12_step_144 bo_1 ?_
          exact hR _ _ dX12_step_147
  · have hP := hP.2 c0
    rw [if_neg c0] at hR
    refine j_aload_n C dX12_step_63 rfl rfl ?_
    refine gM_59 C dX12_step_64 ?_
    refine j_aload_n C dX12_step_67 rfl rfl ?_
    refine gM_53 C dX12_step_68 ?_
    refine j_iload_n C dX12_step_71 rfl rfl ?_
    obtain ⟨p5, hP⟩ := hP
    refine j_iald (k := 15) (v := (h 15 (a0.toNatClampNeg))) C dX12_step_72 (by decide) rfl p5 ((hz_k (by decide)).trans ((hz_k (by decide)).trans ((hz_k (by decide)).trans ((hz_k (by decide)).trans ((hz_k (by decide)).trans (hz_k (by decide))))))) ?_
    refine j_iload_n C dX12_step_73 rfl rfl ?_
    obtain ⟨p8, hP⟩ := hP
    refine j_iast (k := 17) C dX12_step_74 (by decide) rfl p8 ?_
    refine j_aload_n C dX12_step_75 rfl rfl ?_
    refine j_iconst (v := 1) C dX12_step_76 (by decide) ?_
    refine pM_234 C dX12_step_77 ?_
    refine j_aload_n C dX12_step_80 rfl rfl ?_
    refine j_aload_n C dX12_step_81 rfl rfl ?_
    refine gM_53 C dX12_step_82 ?_
    refine j_iload_n C dX12_step_85 rfl rfl ?_
    obtain ⟨p17, hP⟩ := hP
    refine j_iald (k := 15) (v := (h 15 (a0.toNatClampNeg))) C dX12_step_86 (by decide) rfl p17 ((hz_k (by decide)).trans ((hz_k (by decide)).trans ((hz_k (by decide)).trans ((hz_k (by decide)).trans ((hz_k (by decide)).trans ((hz_k (by decide)).trans ((hz_k (by decide)).trans (hz_k (by decide))))))))) ?_
    refine pM_237 C dX12_step_87 ?_
    refine j_aload_n C dX12_step_90 rfl rfl ?_
    refine gM_53 C dX12_step_91 ?_
    refine j_iload_n C dX12_step_94 rfl rfl ?_
    refine j_iconst (v := (-1)) C dX12_step_95 (by decide) ?_
    obtain ⟨p24, hP⟩ := hP
    refine j_iast (k := 15) C dX12_step_96 (by decide) rfl p24 ?_
    refine j_aload_n C dX12_step_97 rfl rfl ?_
    refine j_iload_n C dX12_step_98 rfl rfl ?_
    refine j_aload_n C dX12_step_99 rfl rfl ?_
    refine gM_43 C dX12_step_100 ?_
    refine j_iload_n C dX12_step_103 rfl rfl ?_
    obtain ⟨p31, hP⟩ := hP
    refine j_iald (k := 12) (v := (h 12 (a0.toNatClampNeg))) C dX12_step_104 (by decide) rfl p31 ((hz_k (by decide)).trans ((hz_k (by decide)).trans ((hz_k (by decide)).trans ((hz_k (by decide)).trans ((hz_k (by decide)).trans ((hz_k (by decide)).trans ((hz_k (by decide)).trans ((hz_k (by decide)).trans ((hz_k (by decide)).trans (hz_k (by decide))))))))))) ?_
    refine j_iconst (v := 1) C dX12_step_105 (by decide) ?_
    refine j_iadd C dX12_step_106 ?_
    obtain ⟨p35, hP⟩ := hP
    refine j_callVv C (MX12_goTo a0 ((h 12 (a0.toNatClampNeg)) + 1) (hs (hs (hs (hs (hs (hs (hs (hs (hs (hs h 0 27 (h 12 (a0.toNatClampNeg))) 0 28 (h 2 (((24 * a0) + (h 12 (a0.toNatClampNeg))).toNatClampNeg))) 0 29 (-2)) 0 30 (-2)) 0 31 0) 0 32 (-1)) 17 (h 15 (a0.toNatClampNeg)).toNatClampNeg a0) 0 31 1) 0 32 (h 15 (a0.toNatClampNeg))) 15 a0.toNatClampNeg (-1)) p35) dX12_step_107 (CKX12_goTo (by decide)) ⟨rfl, rfl⟩ lk_RX12_246 in_X12_goTo se_X12_goTo (by decide) rfl rfl rfl (Nat.le_of_ble_eq_true rfl) ?_
    intro S' h' hq
    obtain ⟨rfl, rfl⟩ := hq
    exact j_vl (tX12_step_110 C  a0 (FX12_goTo a0 ((h 12 (a0.toNatClampNeg)) + 1) (hs (hs (hs (hs (hs (hs (hs (hs (hs (hs h 0 27 (h 12 (a0.toNatClampNeg))) 0 28 (h 2 (((24 * a0) + (h 12 (a0.toNatClampNeg))).toNatClampNeg))) 0 29 (-2)) 0 30 (-2)) 0 31 0) 0 32 (-1)) 17 (h 15 (a0.toNatClampNeg)).toNatClampNeg a0) 0 31 1) 0 32 (h 15 (a0.toNatClampNeg))) 15 a0.toNatClampNeg (-1))) hP hR) ⟨rfl, rfl, trivial⟩
theorem MX12_step {l0 : Launch} {Y : fj_Y} {ad : Nat → Nat} (a0 : Int32) (h : ph_H) (hP : PX12_step a0 h) : MV l0 yX12_step cX12_step 3 ({ frames := 3, cells := 0, slots := 0, locals := 78 } : Room) Y ad 50 SM h [.ref (ad 0), .int a0] (fun S' h' => S' = SM ∧ h' = FX12_step a0 h) := met_v (by decide) (Nat.le_of_ble_eq_true rfl) (fun X C K => j_vl (tX12_step C a0 h hP (fun pc lv hd => K _ _ ⟨rfl, rfl⟩ pc lv hd)) ⟨rfl, rfl, trivial⟩)

-- X12_free
def FX12_free_12  : Nat → Int32 → ph_H → Int32
  | 0, _, _ => 0
  | q + 1, x2, h => if 4 ≤ x2 then ((-1)) else (if (FX12_canGo x2 h) = 0 then (FX12_free_12  q (x2 + 1) h) else (x2))
def PX12_free_12  : Nat → Int32 → ph_H → Prop
  | 0, _, _ => False
  | q + 1, x2, h => (4 ≤ x2 → (True)) ∧ (¬ 4 ≤ x2 → ((PX12_canGo x2 h) ∧ (((FX12_canGo x2 h) = 0 → (PX12_free_12  q (x2 + 1) h)) ∧ (¬ (FX12_canGo x2 h) = 0 → (True)))))
set_option maxRecDepth 100000 in
set_option maxHeartbeats 4000000 in
theorem tX12_free_12 {X : fj_X} {Y : fj_Y} {l0 : Launch} {ad : Nat → Nat} (C : FC X Y l0 cX12_free 3 RX12 ({ frames := 3, cells := 0, slots := 0, locals := 67 } : Room) 0 0 (some .int)) (h : ph_H) : ∀ (q : Nat) (x2 : Int32), PX12_free_12  q x2 h → RETp X Y ad 50 SM h cX12_free (FX12_free_12  q x2 h) → FJ X Y ad 50 SM h 12 [(0, .ref (ad 0)), (2, .int x2)] [] := by
  intro q
  induction q with
  | zero =>
    intro x2 hP hR
    exact absurd hP id
  | succ q ih =>
    intro x2 hP hR
    unfold PX12_free_12 at hP
    unfold FX12_free_12 at hR
    refine j_iload_n C dX12_free_12 rfl rfl ?_
    refine j_iconst (v := 4) C dX12_free_13 (by decide) ?_
    refine j_icmp_ge (tgt := 33) C dX12_free_14 (by decide) (fun c0 => ?_) (fun c0 => ?_)
    · have hP := hP.1 c0
      rw [if_pos c0] at hR
      refine j_iconst (v := (-1)) C dX12_free_33 (by decide) ?_
      exact hR _ _ dX12_free_34
    · have hP := hP.2 c0
      rw [if_neg c0] at hR
      refine j_aload_n C dX12_free_17 rfl rfl ?_
      refine j_iload_n C dX12_free_18 rfl rfl ?_
      obtain ⟨p2, hP⟩ := hP
      refine j_callV C (MX12_canGo x2 h p2) dX12_free_19 (CKX12_canGo (by decide)) ⟨rfl, rfl⟩ lk_RX12_215 in_X12_canGo se_X12_canGo (by decide) rfl rfl rfl (Nat.le_of_ble_eq_true rfl) ?_
      intro r S' h' hq
      obtain ⟨rfl, hh, rfl, hb4⟩ := hq
      rw [hh]
      refine j_if_eq (tgt := 27) C dX12_free_22 (by decide) (fun c1 => ?_) (fun c1 => ?_)
      · have hP := hP.1 c1
        rw [if_pos c1] at hR
        refine j_iinc (v := (x2 + 1)) C dX12_free_27 rfl rfl (by decide) rfl ?_
        refine j_goto (tgt := 12) C dX12_free_30 (by decide) ?_
        exact j_vl (ih (x2 + 1) hP hR) ⟨rfl, rfl, trivial⟩
      · have hP := hP.2 c1
        rw [if_neg c1] at hR
        refine j_iload_n C dX12_free_25 rfl rfl ?_
        exact hR _ _ dX12_free_26
def FX12_free (a0 : Int32) (h : ph_H) : Int32 := if (FX12_canGo a0 h) = 0 then (FX12_free_12 2000 0 h) else (a0)
def PX12_free (a0 : Int32) (h : ph_H) : Prop := (PX12_canGo a0 h) ∧ (((FX12_canGo a0 h) = 0 → (PX12_free_12 2000 0 h)) ∧ (¬ (FX12_canGo a0 h) = 0 → (True)))
set_option maxRecDepth 100000 in
set_option maxHeartbeats 4000000 in
theorem tX12_free {X : fj_X} {Y : fj_Y} {l0 : Launch} {ad : Nat → Nat} (C : FC X Y l0 cX12_free 3 RX12 ({ frames := 3, cells := 0, slots := 0, locals := 67 } : Room) 0 0 (some .int)) (a0 : Int32) (h : ph_H) (hP : PX12_free a0 h) (hR : RETp X Y ad 50 SM h cX12_free (FX12_free a0 h)) : FJ X Y ad 50 SM h 0 [(0, .ref (ad 0)), (1, .int a0)] [] := by
  unfold PX12_free at hP
  unfold FX12_free at hR
  refine j_aload_n C dX12_free_0 rfl rfl ?_
  refine j_iload_n C dX12_free_1 rfl rfl ?_
  obtain ⟨p2, hP⟩ := hP
  refine j_callV C (MX12_canGo a0 h p2) dX12_free_2 (CKX12_canGo (by decide)) ⟨rfl, rfl⟩ lk_RX12_215 in_X12_canGo se_X12_canGo (by decide) rfl rfl rfl (Nat.le_of_ble_eq_true rfl) ?_
  intro r S' h' hq
  obtain ⟨rfl, hh, rfl, hb4⟩ := hq
  rw [hh]
  refine j_if_eq (tgt := 10) C dX12_free_5 (by decide) (fun c0 => ?_) (fun c0 => ?_)
  · have hP := hP.1 c0
    rw [if_pos c0] at hR
    refine j_iconst (v := 0) C dX12_free_10 (by decide) ?_
    refine j_istore_n C dX12_free_11 rfl (by decide) rfl ?_
    exact j_vl (tX12_free_12 C h 2000 0 hP hR) ⟨rfl, rfl, trivial⟩
  · have hP := hP.2 c0
    rw [if_neg c0] at hR
    refine j_iload_n C dX12_free_8 rfl rfl ?_
    exact hR _ _ dX12_free_9
theorem MX12_free {l0 : Launch} {Y : fj_Y} {ad : Nat → Nat} (a0 : Int32) (h : ph_H) (hP : PX12_free a0 h) : MI l0 yX12_free cX12_free 3 (some .int) ({ frames := 3, cells := 0, slots := 0, locals := 67 } : Room) Y ad 50 SM h [.ref (ad 0), .int a0] (fun r S' h' => S' = SM ∧ h' = h ∧ r = FX12_free a0 h) := met_i (by decide) (Nat.le_of_ble_eq_true rfl) (fun _ _ _ _ => rfl) (fun X C K => j_vl (tX12_free C a0 h hP (fun pc lv hd => K _ _ _ ⟨rfl, rfl, rfl⟩ pc lv hd)) ⟨rfl, rfl, trivial⟩)

-- X12_keep
def FX12_keep_171  : Nat → Int32 → Int32 → ph_H → ph_H
  | 0, _, _, h => h
  | q + 1, x1, x2, h => if (16 * (h 0 18)) ≤ x2 then (h) else (FX12_keep_171  q x1 (x2 + 1) (hs h 28 ((192 * x1) + x2).toNatClampNeg (h 19 (x2.toNatClampNeg))))
def PX12_keep_171  : Nat → Int32 → Int32 → ph_H → Prop
  | 0, _, _, _ => False
  | q + 1, x1, x2, h => ((16 * (h 0 18)) ≤ x2 → (True)) ∧ (¬ (16 * (h 0 18)) ≤ x2 → (vp_in x2 192 ∧ (vp_in ((192 * x1) + x2) 57792 ∧ (PX12_keep_171  q x1 (x2 + 1) (hs h 28 ((192 * x1) + x2).toNatClampNeg (h 19 (x2.toNatClampNeg)))))))
set_option maxRecDepth 100000 in
set_option maxHeartbeats 4000000 in
theorem tX12_keep_171 {X : fj_X} {Y : fj_Y} {l0 : Launch} {ad : Nat → Nat} (C : FC X Y l0 cX12_keep 3 RX12 ({ frames := 4, cells := 0, slots := 0, locals := 88 } : Room) 0 0 none) : ∀ (q : Nat) (x1 : Int32) (x2 : Int32) (h : ph_H), PX12_keep_171  q x1 x2 h → RETv X Y ad 50 SM cX12_keep (FX12_keep_171  q x1 x2 h) → FJ X Y ad 50 SM h 171 [(0, .ref (ad 0)), (1, .int x1), (2, .int x2)] [] := by
  intro q
  induction q with
  | zero =>
    intro x1 x2 h hP hR
    exact absurd hP id
  | succ q ih =>
    intro x1 x2 h hP hR
    unfold PX12_keep_171 at hP
    unfold FX12_keep_171 at hR
    refine j_iload_n C dX12_keep_171 rfl rfl ?_
    refine j_bipush (v := 16) C dX12_keep_172 (by decide) ?_
    refine j_aload_n C dX12_keep_174 rfl rfl ?_
    refine gM_185 (v := (h 0 18)) C dX12_keep_175 rfl ?_
    refine j_imul C dX12_keep_178 ?_
    refine j_icmp_ge (tgt := 206) C dX12_keep_179 (by decide) (fun c0 => ?_) (fun c0 => ?_)
    · have hP := hP.1 c0
      rw [if_pos c0] at hR
      exact hR _ _ dX12_keep_206
    · have hP := hP.2 c0
      rw [if_neg c0] at hR
      refine j_aload_n C dX12_keep_182 rfl rfl ?_
      refine gM_93 C dX12_keep_183 ?_
      refine j_sipush (v := 192) C dX12_keep_186 (by decide) ?_
      refine j_iload_n C dX12_keep_189 rfl rfl ?_
      refine j_imul C dX12_keep_190 ?_
      refine j_iload_n C dX12_keep_191 rfl rfl ?_
      refine j_iadd C dX12_keep_192 ?_
      refine j_aload_n C dX12_keep_193 rfl rfl ?_
      refine gM_65 C dX12_keep_194 ?_
      refine j_iload_n C dX12_keep_197 rfl rfl ?_
      obtain ⟨p10, hP⟩ := hP
      refine j_iald (k := 19) (v := (h 19 (x2.toNatClampNeg))) C dX12_keep_198 (by decide) rfl p10 rfl ?_
      obtain ⟨p12, hP⟩ := hP
      refine j_iast (k := 28) C dX12_keep_199 (by decide) rfl p12 ?_
      refine j_iinc (v := (x2 + 1)) C dX12_keep_200 rfl rfl (by decide) rfl ?_
      refine j_goto (tgt := 171) C dX12_keep_203 (by decide) ?_
      exact j_vl (ih x1 (x2 + 1) (hs h 28 ((192 * x1) + x2).toNatClampNeg (h 19 (x2.toNatClampNeg))) hP hR) ⟨rfl, rfl, rfl, trivial⟩
def FX12_keep_104  : Nat → Int32 → Int32 → ph_H → ph_H
  | 0, _, _, h => h
  | q + 1, x1, x2, h => if (h 0 18) ≤ x2 then (FX12_keep_171 2000 x1 0 h) else (FX12_keep_104  q x1 (x2 + 1) (hs (hs (hs h 25 ((12 * x1) + x2).toNatClampNeg (h 16 (x2.toNatClampNeg))) 26 ((12 * x1) + x2).toNatClampNeg (h 17 (x2.toNatClampNeg))) 27 ((12 * x1) + x2).toNatClampNeg (h 18 (x2.toNatClampNeg))))
def PX12_keep_104  : Nat → Int32 → Int32 → ph_H → Prop
  | 0, _, _, _ => False
  | q + 1, x1, x2, h => ((h 0 18) ≤ x2 → (PX12_keep_171 2000 x1 0 h)) ∧ (¬ (h 0 18) ≤ x2 → (vp_in x2 12 ∧ (vp_in ((12 * x1) + x2) 3612 ∧ (vp_in x2 12 ∧ (vp_in ((12 * x1) + x2) 3612 ∧ (vp_in x2 12 ∧ (vp_in ((12 * x1) + x2) 3612 ∧ (PX12_keep_104  q x1 (x2 + 1) (hs (hs (hs h 25 ((12 * x1) + x2).toNatClampNeg (h 16 (x2.toNatClampNeg))) 26 ((12 * x1) + x2).toNatClampNeg (h 17 (x2.toNatClampNeg))) 27 ((12 * x1) + x2).toNatClampNeg (h 18 (x2.toNatClampNeg)))))))))))
set_option maxRecDepth 100000 in
set_option maxHeartbeats 4000000 in
theorem tX12_keep_104 {X : fj_X} {Y : fj_Y} {l0 : Launch} {ad : Nat → Nat} (C : FC X Y l0 cX12_keep 3 RX12 ({ frames := 4, cells := 0, slots := 0, locals := 88 } : Room) 0 0 none) : ∀ (q : Nat) (x1 : Int32) (x2 : Int32) (h : ph_H), PX12_keep_104  q x1 x2 h → RETv X Y ad 50 SM cX12_keep (FX12_keep_104  q x1 x2 h) → FJ X Y ad 50 SM h 104 [(0, .ref (ad 0)), (1, .int x1), (2, .int x2)] [] := by
  intro q
  induction q with
  | zero =>
    intro x1 x2 h hP hR
    exact absurd hP id
  | succ q ih =>
    intro x1 x2 h hP hR
    unfold PX12_keep_104 at hP
    unfold FX12_keep_104 at hR
    refine j_iload_n C dX12_keep_104 rfl rfl ?_
    refine j_aload_n C dX12_keep_105 rfl rfl ?_
    refine gM_185 (v := (h 0 18)) C dX12_keep_106 rfl ?_
    refine j_icmp_ge (tgt := 169) C dX12_keep_109 (by decide) (fun c0 => ?_) (fun c0 => ?_)
    · have hP := hP.1 c0
      rw [if_pos c0] at hR
      refine j_iconst (v := 0) C dX12_keep_169 (by decide) ?_
      refine j_istore_n C dX12_keep_170 rfl (by decide) rfl ?_
      exact j_vl (tX12_keep_171 C 2000 x1 0 h hP hR) ⟨rfl, rfl, rfl, trivial⟩
    · have hP := hP.2 c0
      rw [if_neg c0] at hR
      refine j_aload_n C dX12_keep_112 rfl rfl ?_
      refine gM_83 C dX12_keep_113 ?_
      refine j_bipush (v := 12) C dX12_keep_116 (by decide) ?_
      refine j_iload_n C dX12_keep_118 rfl rfl ?_
      refine j_imul C dX12_keep_119 ?_
      refine j_iload_n C dX12_keep_120 rfl rfl ?_
      refine j_iadd C dX12_keep_121 ?_
      refine j_aload_n C dX12_keep_122 rfl rfl ?_
      refine gM_56 C dX12_keep_123 ?_
      refine j_iload_n C dX12_keep_126 rfl rfl ?_
      obtain ⟨p10, hP⟩ := hP
      refine j_iald (k := 16) (v := (h 16 (x2.toNatClampNeg))) C dX12_keep_127 (by decide) rfl p10 rfl ?_
      obtain ⟨p12, hP⟩ := hP
      refine j_iast (k := 25) C dX12_keep_128 (by decide) rfl p12 ?_
      refine j_aload_n C dX12_keep_129 rfl rfl ?_
      refine gM_86 C dX12_keep_130 ?_
      refine j_bipush (v := 12) C dX12_keep_133 (by decide) ?_
      refine j_iload_n C dX12_keep_135 rfl rfl ?_
      refine j_imul C dX12_keep_136 ?_
      refine j_iload_n C dX12_keep_137 rfl rfl ?_
      refine j_iadd C dX12_keep_138 ?_
      refine j_aload_n C dX12_keep_139 rfl rfl ?_
      refine gM_59 C dX12_keep_140 ?_
      refine j_iload_n C dX12_keep_143 rfl rfl ?_
      obtain ⟨p24, hP⟩ := hP
      refine j_iald (k := 17) (v := (h 17 (x2.toNatClampNeg))) C dX12_keep_144 (by decide) rfl p24 (hz_k (by decide)) ?_
      obtain ⟨p26, hP⟩ := hP
      refine j_iast (k := 26) C dX12_keep_145 (by decide) rfl p26 ?_
      refine j_aload_n C dX12_keep_146 rfl rfl ?_
      refine gM_89 C dX12_keep_147 ?_
      refine j_bipush (v := 12) C dX12_keep_150 (by decide) ?_
      refine j_iload_n C dX12_keep_152 rfl rfl ?_
      refine j_imul C dX12_keep_153 ?_
      refine j_iload_n C dX12_keep_154 rfl rfl ?_
      refine j_iadd C dX12_keep_155 ?_
      refine j_aload_n C dX12_keep_156 rfl rfl ?_
      refine gM_62 C dX12_keep_157 ?_
      refine j_iload_n C dX12_keep_160 rfl rfl ?_
      obtain ⟨p38, hP⟩ := hP
      refine j_iald (k := 18) (v := (h 18 (x2.toNatClampNeg))) C dX12_keep_161 (by decide) rfl p38 ((hz_k (by decide)).trans (hz_k (by decide))) ?_
      obtain ⟨p40, hP⟩ := hP
      refine j_iast (k := 27) C dX12_keep_162 (by decide) rfl p40 ?_
      refine j_iinc (v := (x2 + 1)) C dX12_keep_163 rfl rfl (by decide) rfl ?_
      refine j_goto (tgt := 104) C dX12_keep_166 (by decide) ?_
      exact j_vl (ih x1 (x2 + 1) (hs (hs (hs h 25 ((12 * x1) + x2).toNatClampNeg (h 16 (x2.toNatClampNeg))) 26 ((12 * x1) + x2).toNatClampNeg (h 17 (x2.toNatClampNeg))) 27 ((12 * x1) + x2).toNatClampNeg (h 18 (x2.toNatClampNeg))) hP hR) ⟨rfl, rfl, rfl, trivial⟩
def FX12_keep_50  : Nat → Int32 → Int32 → ph_H → ph_H
  | 0, _, _, h => h
  | q + 1, x1, x2, h => if 4 ≤ x2 then (FX12_keep_104 2000 x1 0 (hs h 24 x1.toNatClampNeg (h 0 18))) else (FX12_keep_50  q x1 (x2 + 1) (hs (hs h 22 ((4 * x1) + x2).toNatClampNeg (h 12 (x2.toNatClampNeg))) 23 ((4 * x1) + x2).toNatClampNeg (FX12_state x2 (hs h 22 ((4 * x1) + x2).toNatClampNeg (h 12 (x2.toNatClampNeg))))))
def PX12_keep_50  : Nat → Int32 → Int32 → ph_H → Prop
  | 0, _, _, _ => False
  | q + 1, x1, x2, h => (4 ≤ x2 → (vp_in x1 301 ∧ (PX12_keep_104 2000 x1 0 (hs h 24 x1.toNatClampNeg (h 0 18))))) ∧ (¬ 4 ≤ x2 → (vp_in x2 4 ∧ (vp_in ((4 * x1) + x2) 1204 ∧ ((PX12_state x2 (hs h 22 ((4 * x1) + x2).toNatClampNeg (h 12 (x2.toNatClampNeg)))) ∧ (vp_in ((4 * x1) + x2) 1204 ∧ (PX12_keep_50  q x1 (x2 + 1) (hs (hs h 22 ((4 * x1) + x2).toNatClampNeg (h 12 (x2.toNatClampNeg))) 23 ((4 * x1) + x2).toNatClampNeg (FX12_state x2 (hs h 22 ((4 * x1) + x2).toNatClampNeg (h 12 (x2.toNatClampNeg)))))))))))
set_option maxRecDepth 100000 in
set_option maxHeartbeats 4000000 in
theorem tX12_keep_50 {X : fj_X} {Y : fj_Y} {l0 : Launch} {ad : Nat → Nat} (C : FC X Y l0 cX12_keep 3 RX12 ({ frames := 4, cells := 0, slots := 0, locals := 88 } : Room) 0 0 none) : ∀ (q : Nat) (x1 : Int32) (x2 : Int32) (h : ph_H), PX12_keep_50  q x1 x2 h → RETv X Y ad 50 SM cX12_keep (FX12_keep_50  q x1 x2 h) → FJ X Y ad 50 SM h 50 [(0, .ref (ad 0)), (1, .int x1), (2, .int x2)] [] := by
  intro q
  induction q with
  | zero =>
    intro x1 x2 h hP hR
    exact absurd hP id
  | succ q ih =>
    intro x1 x2 h hP hR
    unfold PX12_keep_50 at hP
    unfold FX12_keep_50 at hR
    refine j_iload_n C dX12_keep_50 rfl rfl ?_
    refine j_iconst (v := 4) C dX12_keep_51 (by decide) ?_
    refine j_icmp_ge (tgt := 92) C dX12_keep_52 (by decide) (fun c0 => ?_) (fun c0 => ?_)
    · have hP := hP.1 c0
      rw [if_pos c0] at hR
      refine j_aload_n C dX12_keep_92 rfl rfl ?_
      refine gM_80 C dX12_keep_93 ?_
      refine j_iload_n C dX12_keep_96 rfl rfl ?_
      refine j_aload_n C dX12_keep_97 rfl rfl ?_
      refine gM_185 (v := (h 0 18)) C dX12_keep_98 rfl ?_
      obtain ⟨p5, hP⟩ := hP
      refine j_iast (k := 24) C dX12_keep_101 (by decide) rfl p5 ?_
      refine j_iconst (v := 0) C dX12_keep_102 (by decide) ?_
      refine j_istore_n C dX12_keep_103 rfl (by decide) rfl ?_
      exact j_vl (tX12_keep_104 C 2000 x1 0 (hs h 24 x1.toNatClampNeg (h 0 18)) hP hR) ⟨rfl, rfl, rfl, trivial⟩
    · have hP := hP.2 c0
      rw [if_neg c0] at hR
      refine j_aload_n C dX12_keep_55 rfl rfl ?_
      refine gM_74 C dX12_keep_56 ?_
      refine j_iconst (v := 4) C dX12_keep_59 (by decide) ?_
      refine j_iload_n C dX12_keep_60 rfl rfl ?_
      refine j_imul C dX12_keep_61 ?_
      refine j_iload_n C dX12_keep_62 rfl rfl ?_
      refine j_iadd C dX12_keep_63 ?_
      refine j_aload_n C dX12_keep_64 rfl rfl ?_
      refine gM_43 C dX12_keep_65 ?_
      refine j_iload_n C dX12_keep_68 rfl rfl ?_
      obtain ⟨p10, hP⟩ := hP
      refine j_iald (k := 12) (v := (h 12 (x2.toNatClampNeg))) C dX12_keep_69 (by decide) rfl p10 rfl ?_
      obtain ⟨p12, hP⟩ := hP
      refine j_iast (k := 22) C dX12_keep_70 (by decide) rfl p12 ?_
      refine j_aload_n C dX12_keep_71 rfl rfl ?_
      refine gM_77 C dX12_keep_72 ?_
      refine j_iconst (v := 4) C dX12_keep_75 (by decide) ?_
      refine j_iload_n C dX12_keep_76 rfl rfl ?_
      refine j_imul C dX12_keep_77 ?_
      refine j_iload_n C dX12_keep_78 rfl rfl ?_
      refine j_iadd C dX12_keep_79 ?_
      refine j_aload_n C dX12_keep_80 rfl rfl ?_
      refine j_iload_n C dX12_keep_81 rfl rfl ?_
      obtain ⟨p23, hP⟩ := hP
      refine j_callV C (MX12_state x2 (hs h 22 ((4 * x1) + x2).toNatClampNeg (h 12 (x2.toNatClampNeg))) p23) dX12_keep_82 (CKX12_state (by decide)) ⟨rfl, rfl⟩ lk_RX12_268 in_X12_state se_X12_state (by decide) rfl rfl rfl (Nat.le_of_ble_eq_true rfl) ?_
      intro r S' h' hq
      obtain ⟨rfl, hh, rfl⟩ := hq
      rw [hh]
      obtain ⟨p28, hP⟩ := hP
      refine j_iast (k := 23) C dX12_keep_85 (by decide) rfl p28 ?_
      refine j_iinc (v := (x2 + 1)) C dX12_keep_86 rfl rfl (by decide) rfl ?_
      refine j_goto (tgt := 50) C dX12_keep_89 (by decide) ?_
      exact j_vl (ih x1 (x2 + 1) (hs (hs h 22 ((4 * x1) + x2).toNatClampNeg (h 12 (x2.toNatClampNeg))) 23 ((4 * x1) + x2).toNatClampNeg (FX12_state x2 (hs h 22 ((4 * x1) + x2).toNatClampNeg (h 12 (x2.toNatClampNeg))))) hP hR) ⟨rfl, rfl, rfl, trivial⟩
def FX12_keep_2  : Nat → Int32 → Int32 → ph_H → ph_H
  | 0, _, _, h => h
  | q + 1, x1, x2, h => if 28 ≤ x2 then (FX12_keep_50 2000 x1 0 h) else (FX12_keep_2  q x1 (x2 + 1) (hs (hs h 20 ((28 * x1) + x2).toNatClampNeg (h 10 (x2.toNatClampNeg))) 21 ((28 * x1) + x2).toNatClampNeg (h 11 (x2.toNatClampNeg))))
def PX12_keep_2  : Nat → Int32 → Int32 → ph_H → Prop
  | 0, _, _, _ => False
  | q + 1, x1, x2, h => (28 ≤ x2 → (PX12_keep_50 2000 x1 0 h)) ∧ (¬ 28 ≤ x2 → (vp_in x2 28 ∧ (vp_in ((28 * x1) + x2) 8428 ∧ (vp_in x2 28 ∧ (vp_in ((28 * x1) + x2) 8428 ∧ (PX12_keep_2  q x1 (x2 + 1) (hs (hs h 20 ((28 * x1) + x2).toNatClampNeg (h 10 (x2.toNatClampNeg))) 21 ((28 * x1) + x2).toNatClampNeg (h 11 (x2.toNatClampNeg)))))))))
set_option maxRecDepth 100000 in
set_option maxHeartbeats 4000000 in
theorem tX12_keep_2 {X : fj_X} {Y : fj_Y} {l0 : Launch} {ad : Nat → Nat} (C : FC X Y l0 cX12_keep 3 RX12 ({ frames := 4, cells := 0, slots := 0, locals := 88 } : Room) 0 0 none) : ∀ (q : Nat) (x1 : Int32) (x2 : Int32) (h : ph_H), PX12_keep_2  q x1 x2 h → RETv X Y ad 50 SM cX12_keep (FX12_keep_2  q x1 x2 h) → FJ X Y ad 50 SM h 2 [(0, .ref (ad 0)), (1, .int x1), (2, .int x2)] [] := by
  intro q
  induction q with
  | zero =>
    intro x1 x2 h hP hR
    exact absurd hP id
  | succ q ih =>
    intro x1 x2 h hP hR
    unfold PX12_keep_2 at hP
    unfold FX12_keep_2 at hR
    refine j_iload_n C dX12_keep_2 rfl rfl ?_
    refine j_bipush (v := 28) C dX12_keep_3 (by decide) ?_
    refine j_icmp_ge (tgt := 48) C dX12_keep_5 (by decide) (fun c0 => ?_) (fun c0 => ?_)
    · have hP := hP.1 c0
      rw [if_pos c0] at hR
      refine j_iconst (v := 0) C dX12_keep_48 (by decide) ?_
      refine j_istore_n C dX12_keep_49 rfl (by decide) rfl ?_
      exact j_vl (tX12_keep_50 C 2000 x1 0 h hP hR) ⟨rfl, rfl, rfl, trivial⟩
    · have hP := hP.2 c0
      rw [if_neg c0] at hR
      refine j_aload_n C dX12_keep_8 rfl rfl ?_
      refine gM_68 C dX12_keep_9 ?_
      refine j_bipush (v := 28) C dX12_keep_12 (by decide) ?_
      refine j_iload_n C dX12_keep_14 rfl rfl ?_
      refine j_imul C dX12_keep_15 ?_
      refine j_iload_n C dX12_keep_16 rfl rfl ?_
      refine j_iadd C dX12_keep_17 ?_
      refine j_aload_n C dX12_keep_18 rfl rfl ?_
      refine gM_37 C dX12_keep_19 ?_
      refine j_iload_n C dX12_keep_22 rfl rfl ?_
      obtain ⟨p10, hP⟩ := hP
      refine j_iald (k := 10) (v := (h 10 (x2.toNatClampNeg))) C dX12_keep_23 (by decide) rfl p10 rfl ?_
      obtain ⟨p12, hP⟩ := hP
      refine j_iast (k := 20) C dX12_keep_24 (by decide) rfl p12 ?_
      refine j_aload_n C dX12_keep_25 rfl rfl ?_
      refine gM_71 C dX12_keep_26 ?_
      refine j_bipush (v := 28) C dX12_keep_29 (by decide) ?_
      refine j_iload_n C dX12_keep_31 rfl rfl ?_
      refine j_imul C dX12_keep_32 ?_
      refine j_iload_n C dX12_keep_33 rfl rfl ?_
      refine j_iadd C dX12_keep_34 ?_
      refine j_aload_n C dX12_keep_35 rfl rfl ?_
      refine gM_40 C dX12_keep_36 ?_
      refine j_iload_n C dX12_keep_39 rfl rfl ?_
      obtain ⟨p24, hP⟩ := hP
      refine j_iald (k := 11) (v := (h 11 (x2.toNatClampNeg))) C dX12_keep_40 (by decide) rfl p24 (hz_k (by decide)) ?_
      obtain ⟨p26, hP⟩ := hP
      refine j_iast (k := 21) C dX12_keep_41 (by decide) rfl p26 ?_
      refine j_iinc (v := (x2 + 1)) C dX12_keep_42 rfl rfl (by decide) rfl ?_
      refine j_goto (tgt := 2) C dX12_keep_45 (by decide) ?_
      exact j_vl (ih x1 (x2 + 1) (hs (hs h 20 ((28 * x1) + x2).toNatClampNeg (h 10 (x2.toNatClampNeg))) 21 ((28 * x1) + x2).toNatClampNeg (h 11 (x2.toNatClampNeg))) hP hR) ⟨rfl, rfl, rfl, trivial⟩
def FX12_keep (a0 : Int32) (h : ph_H) : ph_H := FX12_keep_2 2000 a0 0 h
def PX12_keep (a0 : Int32) (h : ph_H) : Prop := PX12_keep_2 2000 a0 0 h
set_option maxRecDepth 100000 in
set_option maxHeartbeats 4000000 in
theorem tX12_keep {X : fj_X} {Y : fj_Y} {l0 : Launch} {ad : Nat → Nat} (C : FC X Y l0 cX12_keep 3 RX12 ({ frames := 4, cells := 0, slots := 0, locals := 88 } : Room) 0 0 none) (a0 : Int32) (h : ph_H) (hP : PX12_keep a0 h) (hR : RETv X Y ad 50 SM cX12_keep (FX12_keep a0 h)) : FJ X Y ad 50 SM h 0 [(0, .ref (ad 0)), (1, .int a0)] [] := by
  unfold PX12_keep at hP
  unfold FX12_keep at hR
  refine j_iconst (v := 0) C dX12_keep_0 (by decide) ?_
  refine j_istore_n C dX12_keep_1 rfl (by decide) rfl ?_
  exact j_vl (tX12_keep_2 C 2000 a0 0 h hP hR) ⟨rfl, rfl, rfl, trivial⟩
theorem MX12_keep {l0 : Launch} {Y : fj_Y} {ad : Nat → Nat} (a0 : Int32) (h : ph_H) (hP : PX12_keep a0 h) : MV l0 yX12_keep cX12_keep 3 ({ frames := 4, cells := 0, slots := 0, locals := 88 } : Room) Y ad 50 SM h [.ref (ad 0), .int a0] (fun S' h' => S' = SM ∧ h' = FX12_keep a0 h) := met_v (by decide) (Nat.le_of_ble_eq_true rfl) (fun X C K => j_vl (tX12_keep C a0 h hP (fun pc lv hd => K _ _ ⟨rfl, rfl⟩ pc lv hd)) ⟨rfl, rfl, trivial⟩)

-- X12_stepKept
def FX12_stepKept_182  (s0 : Int32) (s1 : Int32) (h : ph_H) : ph_H := (FX12_keep (h 0 24) (hs (hs h 34 s1.toNatClampNeg s0) 35 (h 0 24).toNatClampNeg (h 0 32)))
def PX12_stepKept_182  (s0 : Int32) (s1 : Int32) (h : ph_H) : Prop := vp_in s1 301 ∧ (vp_in (h 0 24) 301 ∧ ((PX12_keep (h 0 24) (hs (hs h 34 s1.toNatClampNeg s0) 35 (h 0 24).toNatClampNeg (h 0 32))) ∧ (True)))
set_option maxRecDepth 100000 in
set_option maxHeartbeats 4000000 in
theorem tX12_stepKept_182 {X : fj_X} {Y : fj_Y} {l0 : Launch} {ad : Nat → Nat} (C : FC X Y l0 cX12_stepKept 4 RX12 ({ frames := 5, cells := 0, slots := 0, locals := 110 } : Room) 0 0 none) (s0 : Int32) (s1 : Int32) (h : ph_H) (hP : PX12_stepKept_182  s0 s1 h) (hR : RETv X Y ad 50 SM cX12_stepKept (FX12_stepKept_182  s0 s1 h)) : FJ X Y ad 50 SM h 182 [(0, .ref (ad 0))] [.int s0, .int s1, .ref (ad 34)] := by
  unfold PX12_stepKept_182 at hP
  unfold FX12_stepKept_182 at hR
  obtain ⟨p0, hP⟩ := hP
  refine j_iast (k := 34) C dX12_stepKept_182 (by decide) rfl p0 ?_
  refine j_aload_n C dX12_stepKept_183 rfl rfl ?_
  refine gM_114 C dX12_stepKept_184 ?_
  refine j_aload_n C dX12_stepKept_187 rfl rfl ?_
  refine gM_191 (v := (h 0 24)) C dX12_stepKept_188 (hz_k (by decide)) ?_
  refine j_aload_n C dX12_stepKept_191 rfl rfl ?_
  refine gM_237 (v := (h 0 32)) C dX12_stepKept_192 (hz_k (by decide)) ?_
  obtain ⟨p8, hP⟩ := hP
  refine j_iast (k := 35) C dX12_stepKept_195 (by decide) rfl p8 ?_
  refine j_aload_n C dX12_stepKept_196 rfl rfl ?_
  refine j_aload_n C dX12_stepKept_197 rfl rfl ?_
  refine gM_191 (v := (h 0 24)) C dX12_stepKept_198 ((hz_k (by decide)).trans (hz_k (by decide))) ?_
  obtain ⟨p13, hP⟩ := hP
  refine j_callVv C (MX12_keep (h 0 24) (hs (hs h 34 s1.toNatClampNeg s0) 35 (h 0 24).toNatClampNeg (h 0 32)) p13) dX12_stepKept_201 (CKX12_keep (by decide)) ⟨rfl, rfl⟩ lk_RX12_279 in_X12_keep se_X12_keep (by decide) rfl rfl rfl (Nat.le_of_ble_eq_true rfl) ?_
  intro S' h' hq
  obtain ⟨rfl, rfl⟩ := hq
  exact hR _ _ dX12_stepKept_204
def FX12_stepKept_158  (s0 : Int32) (s1 : Int32) (h : ph_H) : ph_H := if (h 0 25) ≤ 0 then (FX12_stepKept_182  (h 0 31) (h 0 24) (hs h 33 s1.toNatClampNeg s0)) else (FX12_stepKept_182  0 (h 0 24) (hs h 33 s1.toNatClampNeg s0))
def PX12_stepKept_158  (s0 : Int32) (s1 : Int32) (h : ph_H) : Prop := vp_in s1 301 ∧ (((h 0 25) ≤ 0 → (PX12_stepKept_182  (h 0 31) (h 0 24) (hs h 33 s1.toNatClampNeg s0))) ∧ (¬ (h 0 25) ≤ 0 → (PX12_stepKept_182  0 (h 0 24) (hs h 33 s1.toNatClampNeg s0))))
set_option maxRecDepth 100000 in
set_option maxHeartbeats 4000000 in
theorem tX12_stepKept_158 {X : fj_X} {Y : fj_Y} {l0 : Launch} {ad : Nat → Nat} (C : FC X Y l0 cX12_stepKept 4 RX12 ({ frames := 5, cells := 0, slots := 0, locals := 110 } : Room) 0 0 none) (s0 : Int32) (s1 : Int32) (h : ph_H) (hP : PX12_stepKept_158  s0 s1 h) (hR : RETv X Y ad 50 SM cX12_stepKept (FX12_stepKept_158  s0 s1 h)) : FJ X Y ad 50 SM h 158 [(0, .ref (ad 0))] [.int s0, .int s1, .ref (ad 33)] := by
  unfold PX12_stepKept_158 at hP
  unfold FX12_stepKept_158 at hR
  obtain ⟨p0, hP⟩ := hP
  refine j_iast (k := 33) C dX12_stepKept_158 (by decide) rfl p0 ?_
  refine j_aload_n C dX12_stepKept_159 rfl rfl ?_
  refine gM_111 C dX12_stepKept_160 ?_
  refine j_aload_n C dX12_stepKept_163 rfl rfl ?_
  refine gM_191 (v := (h 0 24)) C dX12_stepKept_164 (hz_k (by decide)) ?_
  refine j_aload_n C dX12_stepKept_167 rfl rfl ?_
  refine gM_194 (v := (h 0 25)) C dX12_stepKept_168 (hz_k (by decide)) ?_
  refine j_if_le (tgt := 178) C dX12_stepKept_171 (by decide) (fun c0 => ?_) (fun c0 => ?_)
  · have hP := hP.1 c0
    rw [if_pos c0] at hR
    refine j_aload_n C dX12_stepKept_178 rfl rfl ?_
    refine gM_234 (v := (h 0 31)) C dX12_stepKept_179 (hz_k (by decide)) ?_
    exact j_vl (tX12_stepKept_182 C  (h 0 31) (h 0 24) (hs h 33 s1.toNatClampNeg s0) hP hR) ⟨rfl, trivial⟩
  · have hP := hP.2 c0
    rw [if_neg c0] at hR
    refine j_iconst (v := 0) C dX12_stepKept_174 (by decide) ?_
    refine j_goto (tgt := 182) C dX12_stepKept_175 (by decide) ?_
    exact j_vl (tX12_stepKept_182 C  0 (h 0 24) (hs h 33 s1.toNatClampNeg s0) hP hR) ⟨rfl, trivial⟩
def FX12_stepKept_133  (s0 : Int32) (s1 : Int32) (h : ph_H) : ph_H := if (h 0 25) ≤ 0 then (FX12_stepKept_158  (h 0 30) (h 0 24) (hs h 32 s1.toNatClampNeg s0)) else (FX12_stepKept_158  (-2) (h 0 24) (hs h 32 s1.toNatClampNeg s0))
def PX12_stepKept_133  (s0 : Int32) (s1 : Int32) (h : ph_H) : Prop := vp_in s1 301 ∧ (((h 0 25) ≤ 0 → (PX12_stepKept_158  (h 0 30) (h 0 24) (hs h 32 s1.toNatClampNeg s0))) ∧ (¬ (h 0 25) ≤ 0 → (PX12_stepKept_158  (-2) (h 0 24) (hs h 32 s1.toNatClampNeg s0))))
set_option maxRecDepth 100000 in
set_option maxHeartbeats 4000000 in
theorem tX12_stepKept_133 {X : fj_X} {Y : fj_Y} {l0 : Launch} {ad : Nat → Nat} (C : FC X Y l0 cX12_stepKept 4 RX12 ({ frames := 5, cells := 0, slots := 0, locals := 110 } : Room) 0 0 none) (s0 : Int32) (s1 : Int32) (h : ph_H) (hP : PX12_stepKept_133  s0 s1 h) (hR : RETv X Y ad 50 SM cX12_stepKept (FX12_stepKept_133  s0 s1 h)) : FJ X Y ad 50 SM h 133 [(0, .ref (ad 0))] [.int s0, .int s1, .ref (ad 32)] := by
  unfold PX12_stepKept_133 at hP
  unfold FX12_stepKept_133 at hR
  obtain ⟨p0, hP⟩ := hP
  refine j_iast (k := 32) C dX12_stepKept_133 (by decide) rfl p0 ?_
  refine j_aload_n C dX12_stepKept_134 rfl rfl ?_
  refine gM_108 C dX12_stepKept_135 ?_
  refine j_aload_n C dX12_stepKept_138 rfl rfl ?_
  refine gM_191 (v := (h 0 24)) C dX12_stepKept_139 (hz_k (by decide)) ?_
  refine j_aload_n C dX12_stepKept_142 rfl rfl ?_
  refine gM_194 (v := (h 0 25)) C dX12_stepKept_143 (hz_k (by decide)) ?_
  refine j_if_le (tgt := 154) C dX12_stepKept_146 (by decide) (fun c0 => ?_) (fun c0 => ?_)
  · have hP := hP.1 c0
    rw [if_pos c0] at hR
    refine j_aload_n C dX12_stepKept_154 rfl rfl ?_
    refine gM_231 (v := (h 0 30)) C dX12_stepKept_155 (hz_k (by decide)) ?_
    exact j_vl (tX12_stepKept_158 C  (h 0 30) (h 0 24) (hs h 32 s1.toNatClampNeg s0) hP hR) ⟨rfl, trivial⟩
  · have hP := hP.2 c0
    rw [if_neg c0] at hR
    refine j_bipush (v := (-2)) C dX12_stepKept_149 (by decide) ?_
    refine j_goto (tgt := 158) C dX12_stepKept_151 (by decide) ?_
    exact j_vl (tX12_stepKept_158 C  (-2) (h 0 24) (hs h 32 s1.toNatClampNeg s0) hP hR) ⟨rfl, trivial⟩
def FX12_stepKept_73  (x1 : Int32) (h : ph_H) : ph_H := if (h 0 25) ≤ 0 then (FX12_stepKept_133  (h 0 29) (h 0 24) (hs (hs (hs h 29 (h 0 24).toNatClampNeg x1) 30 (h 0 24).toNatClampNeg (h 0 27)) 31 (h 0 24).toNatClampNeg (h 0 28))) else (FX12_stepKept_133  (-2) (h 0 24) (hs (hs (hs h 29 (h 0 24).toNatClampNeg x1) 30 (h 0 24).toNatClampNeg (h 0 27)) 31 (h 0 24).toNatClampNeg (h 0 28)))
def PX12_stepKept_73  (x1 : Int32) (h : ph_H) : Prop := vp_in (h 0 24) 301 ∧ (vp_in (h 0 24) 301 ∧ (vp_in (h 0 24) 301 ∧ (((h 0 25) ≤ 0 → (PX12_stepKept_133  (h 0 29) (h 0 24) (hs (hs (hs h 29 (h 0 24).toNatClampNeg x1) 30 (h 0 24).toNatClampNeg (h 0 27)) 31 (h 0 24).toNatClampNeg (h 0 28)))) ∧ (¬ (h 0 25) ≤ 0 → (PX12_stepKept_133  (-2) (h 0 24) (hs (hs (hs h 29 (h 0 24).toNatClampNeg x1) 30 (h 0 24).toNatClampNeg (h 0 27)) 31 (h 0 24).toNatClampNeg (h 0 28)))))))
set_option maxRecDepth 100000 in
set_option maxHeartbeats 4000000 in
theorem tX12_stepKept_73 {X : fj_X} {Y : fj_Y} {l0 : Launch} {ad : Nat → Nat} (C : FC X Y l0 cX12_stepKept 4 RX12 ({ frames := 5, cells := 0, slots := 0, locals := 110 } : Room) 0 0 none) (x1 : Int32) (h : ph_H) (hP : PX12_stepKept_73  x1 h) (hR : RETv X Y ad 50 SM cX12_stepKept (FX12_stepKept_73  x1 h)) : FJ X Y ad 50 SM h 73 [(0, .ref (ad 0)), (1, .int x1)] [] := by
  unfold PX12_stepKept_73 at hP
  unfold FX12_stepKept_73 at hR
  refine j_aload_n C dX12_stepKept_73 rfl rfl ?_
  refine gM_96 C dX12_stepKept_74 ?_
  refine j_aload_n C dX12_stepKept_77 rfl rfl ?_
  refine gM_191 (v := (h 0 24)) C dX12_stepKept_78 rfl ?_
  refine j_iload_n C dX12_stepKept_81 rfl rfl ?_
  obtain ⟨p5, hP⟩ := hP
  refine j_iast (k := 29) C dX12_stepKept_82 (by decide) rfl p5 ?_
  refine j_aload_n C dX12_stepKept_83 rfl rfl ?_
  refine gM_99 C dX12_stepKept_84 ?_
  refine j_aload_n C dX12_stepKept_87 rfl rfl ?_
  refine gM_191 (v := (h 0 24)) C dX12_stepKept_88 (hz_k (by decide)) ?_
  refine j_aload_n C dX12_stepKept_91 rfl rfl ?_
  refine gM_240 (v := (h 0 27)) C dX12_stepKept_92 (hz_k (by decide)) ?_
  obtain ⟨p13, hP⟩ := hP
  refine j_iast (k := 30) C dX12_stepKept_95 (by decide) rfl p13 ?_
  refine j_aload_n C dX12_stepKept_96 rfl rfl ?_
  refine gM_102 C dX12_stepKept_97 ?_
  refine j_aload_n C dX12_stepKept_100 rfl rfl ?_
  refine gM_191 (v := (h 0 24)) C dX12_stepKept_101 ((hz_k (by decide)).trans (hz_k (by decide))) ?_
  refine j_aload_n C dX12_stepKept_104 rfl rfl ?_
  refine gM_243 (v := (h 0 28)) C dX12_stepKept_105 ((hz_k (by decide)).trans (hz_k (by decide))) ?_
  obtain ⟨p21, hP⟩ := hP
  refine j_iast (k := 31) C dX12_stepKept_108 (by decide) rfl p21 ?_
  refine j_aload_n C dX12_stepKept_109 rfl rfl ?_
  refine gM_105 C dX12_stepKept_110 ?_
  refine j_aload_n C dX12_stepKept_113 rfl rfl ?_
  refine gM_191 (v := (h 0 24)) C dX12_stepKept_114 ((hz_k (by decide)).trans ((hz_k (by decide)).trans (hz_k (by decide)))) ?_
  refine j_aload_n C dX12_stepKept_117 rfl rfl ?_
  refine gM_194 (v := (h 0 25)) C dX12_stepKept_118 ((hz_k (by decide)).trans ((hz_k (by decide)).trans (hz_k (by decide)))) ?_
  refine j_if_le (tgt := 129) C dX12_stepKept_121 (by decide) (fun c0 => ?_) (fun c0 => ?_)
  · have hP := hP.1 c0
    rw [if_pos c0] at hR
    refine j_aload_n C dX12_stepKept_129 rfl rfl ?_
    refine gM_228 (v := (h 0 29)) C dX12_stepKept_130 ((hz_k (by decide)).trans ((hz_k (by decide)).trans (hz_k (by decide)))) ?_
    exact j_vl (tX12_stepKept_133 C  (h 0 29) (h 0 24) (hs (hs (hs h 29 (h 0 24).toNatClampNeg x1) 30 (h 0 24).toNatClampNeg (h 0 27)) 31 (h 0 24).toNatClampNeg (h 0 28)) hP hR) ⟨rfl, trivial⟩
  · have hP := hP.2 c0
    rw [if_neg c0] at hR
    refine j_bipush (v := (-2)) C dX12_stepKept_124 (by decide) ?_
    refine j_goto (tgt := 133) C dX12_stepKept_126 (by decide) ?_
    exact j_vl (tX12_stepKept_133 C  (-2) (h 0 24) (hs (hs (hs h 29 (h 0 24).toNatClampNeg x1) 30 (h 0 24).toNatClampNeg (h 0 27)) 31 (h 0 24).toNatClampNeg (h 0 28)) hP hR) ⟨rfl, trivial⟩
def FX12_stepKept_53  (x1 : Int32) (x3 : Int32) (h : ph_H) : ph_H := if (h 0 23) ≤ x3 then (FX12_stepKept_73  x1 h) else (FX12_stepKept_73  x1 (hs h 36 x3.toNatClampNeg (h 7 (x3.toNatClampNeg))))
def PX12_stepKept_53  (x1 : Int32) (x3 : Int32) (h : ph_H) : Prop := ((h 0 23) ≤ x3 → (PX12_stepKept_73  x1 h)) ∧ (¬ (h 0 23) ≤ x3 → (vp_in x3 30 ∧ (vp_in x3 30 ∧ (PX12_stepKept_73  x1 (hs h 36 x3.toNatClampNeg (h 7 (x3.toNatClampNeg)))))))
set_option maxRecDepth 100000 in
set_option maxHeartbeats 4000000 in
theorem tX12_stepKept_53 {X : fj_X} {Y : fj_Y} {l0 : Launch} {ad : Nat → Nat} (C : FC X Y l0 cX12_stepKept 4 RX12 ({ frames := 5, cells := 0, slots := 0, locals := 110 } : Room) 0 0 none) (x1 : Int32) (x3 : Int32) (h : ph_H) (hP : PX12_stepKept_53  x1 x3 h) (hR : RETv X Y ad 50 SM cX12_stepKept (FX12_stepKept_53  x1 x3 h)) : FJ X Y ad 50 SM h 53 [(0, .ref (ad 0)), (1, .int x1), (3, .int x3)] [] := by
  unfold PX12_stepKept_53 at hP
  unfold FX12_stepKept_53 at hR
  refine j_aload_n C dX12_stepKept_53 rfl rfl ?_
  refine gM_188 (v := (h 0 23)) C dX12_stepKept_54 rfl ?_
  refine j_iload_n C dX12_stepKept_57 rfl rfl ?_
  refine j_icmp_le (tgt := 73) C dX12_stepKept_58 (by decide) (fun c0 => ?_) (fun c0 => ?_)
  · have hP := hP.1 c0
    rw [if_pos c0] at hR
    exact j_vl (tX12_stepKept_73 C  x1 h hP hR) ⟨rfl, rfl, trivial⟩
  · have hP := hP.2 c0
    rw [if_neg c0] at hR
    refine j_aload_n C dX12_stepKept_61 rfl rfl ?_
    refine gM_117 C dX12_stepKept_62 ?_
    refine j_iload_n C dX12_stepKept_65 rfl rfl ?_
    refine j_aload_n C dX12_stepKept_66 rfl rfl ?_
    refine gM_28 C dX12_stepKept_67 ?_
    refine j_iload_n C dX12_stepKept_70 rfl rfl ?_
    obtain ⟨p6, hP⟩ := hP
    refine j_iald (k := 7) (v := (h 7 (x3.toNatClampNeg))) C dX12_stepKept_71 (by decide) rfl p6 rfl ?_
    obtain ⟨p8, hP⟩ := hP
    refine j_iast (k := 36) C dX12_stepKept_72 (by decide) rfl p8 ?_
    exact j_vl (tX12_stepKept_73 C  x1 (hs h 36 x3.toNatClampNeg (h 7 (x3.toNatClampNeg))) hP hR) ⟨rfl, rfl, trivial⟩
def FX12_stepKept_48  (x1 : Int32) (x3 : Int32) (h : ph_H) : ph_H := FX12_stepKept_53  x1 x3 (FX12_step x1 h)
def PX12_stepKept_48  (x1 : Int32) (x3 : Int32) (h : ph_H) : Prop := (PX12_step x1 h) ∧ (PX12_stepKept_53  x1 x3 (FX12_step x1 h))
set_option maxRecDepth 100000 in
set_option maxHeartbeats 4000000 in
theorem tX12_stepKept_48 {X : fj_X} {Y : fj_Y} {l0 : Launch} {ad : Nat → Nat} (C : FC X Y l0 cX12_stepKept 4 RX12 ({ frames := 5, cells := 0, slots := 0, locals := 110 } : Room) 0 0 none) (x1 : Int32) (x3 : Int32) (h : ph_H) (hP : PX12_stepKept_48  x1 x3 h) (hR : RETv X Y ad 50 SM cX12_stepKept (FX12_stepKept_48  x1 x3 h)) : FJ X Y ad 50 SM h 48 [(0, .ref (ad 0)), (1, .int x1), (3, .int x3)] [] := by
  unfold PX12_stepKept_48 at hP
  unfold FX12_stepKept_48 at hR
  refine j_aload_n C dX12_stepKept_48 rfl rfl ?_
  refine j_iload_n C dX12_stepKept_49 rfl rfl ?_
  obtain ⟨p2, hP⟩ := hP
  refine j_callVv C (MX12_step x1 h p2) dX12_stepKept_50 (CKX12_step (by decide)) ⟨rfl, rfl⟩ lk_RX12_275 in_X12_step se_X12_step (by decide) rfl rfl rfl (Nat.le_of_ble_eq_true rfl) ?_
  intro S' h' hq
  obtain ⟨rfl, rfl⟩ := hq
  exact j_vl (tX12_stepKept_53 C  x1 x3 (FX12_step x1 h) hP hR) ⟨rfl, rfl, rfl, trivial⟩
def FX12_stepKept (a0 : Int32) (h : ph_H) : ph_H := if a0 = (h 0 26) then (FX12_stepKept_48  a0 (h 0 23) h) else (FX12_stepKept_48  a0 (h 0 23) (hs (hs (hs h 37 (h 0 60).toNatClampNeg (h 0 24)) 38 (h 0 60).toNatClampNeg a0) 0 60 ((h 0 60) + 1)))
def PX12_stepKept (a0 : Int32) (h : ph_H) : Prop := (a0 = (h 0 26) → (PX12_stepKept_48  a0 (h 0 23) h)) ∧ (¬ a0 = (h 0 26) → (vp_in (h 0 60) 301 ∧ (vp_in (h 0 60) 301 ∧ (PX12_stepKept_48  a0 (h 0 23) (hs (hs (hs h 37 (h 0 60).toNatClampNeg (h 0 24)) 38 (h 0 60).toNatClampNeg a0) 0 60 ((h 0 60) + 1))))))
set_option maxRecDepth 100000 in
set_option maxHeartbeats 4000000 in
theorem tX12_stepKept {X : fj_X} {Y : fj_Y} {l0 : Launch} {ad : Nat → Nat} (C : FC X Y l0 cX12_stepKept 4 RX12 ({ frames := 5, cells := 0, slots := 0, locals := 110 } : Room) 0 0 none) (a0 : Int32) (h : ph_H) (hP : PX12_stepKept a0 h) (hR : RETv X Y ad 50 SM cX12_stepKept (FX12_stepKept a0 h)) : FJ X Y ad 50 SM h 0 [(0, .ref (ad 0)), (1, .int a0)] [] := by
  unfold PX12_stepKept at hP
  unfold FX12_stepKept at hR
  refine j_aload_n C dX12_stepKept_0 rfl rfl ?_
  refine gM_197 (v := (h 0 26)) C dX12_stepKept_1 rfl ?_
  refine j_istore_n C dX12_stepKept_4 rfl (by decide) rfl ?_
  refine j_aload_n C dX12_stepKept_5 rfl rfl ?_
  refine gM_188 (v := (h 0 23)) C dX12_stepKept_6 rfl ?_
  refine j_istore_n C dX12_stepKept_9 rfl (by decide) rfl ?_
  refine j_iload_n C dX12_stepKept_10 rfl rfl ?_
  refine j_iload_n C dX12_stepKept_11 rfl rfl ?_
  refine j_icmp_eq (tgt := 48) C dX12_stepKept_12 (by decide) (fun c0 => ?_) (fun c0 => ?_)
  · have hP := hP.1 c0
    rw [if_pos c0] at hR
    exact j_vl (tX12_stepKept_48 C  a0 (h 0 23) h hP hR) ⟨rfl, rfl, rfl, trivial⟩
  · have hP := hP.2 c0
    rw [if_neg c0] at hR
    refine j_aload_n C dX12_stepKept_15 rfl rfl ?_
    refine gM_120 C dX12_stepKept_16 ?_
    refine j_aload_n C dX12_stepKept_19 rfl rfl ?_
    refine gM_272 (v := (h 0 60)) C dX12_stepKept_20 rfl ?_
    refine j_aload_n C dX12_stepKept_23 rfl rfl ?_
    refine gM_191 (v := (h 0 24)) C dX12_stepKept_24 rfl ?_
    obtain ⟨p6, hP⟩ := hP
    refine j_iast (k := 37) C dX12_stepKept_27 (by decide) rfl p6 ?_
    refine j_aload_n C dX12_stepKept_28 rfl rfl ?_
    refine gM_123 C dX12_stepKept_29 ?_
    refine j_aload_n C dX12_stepKept_32 rfl rfl ?_
    refine gM_272 (v := (h 0 60)) C dX12_stepKept_33 (hz_k (by decide)) ?_
    refine j_iload_n C dX12_stepKept_36 rfl rfl ?_
    obtain ⟨p13, hP⟩ := hP
    refine j_iast (k := 38) C dX12_stepKept_37 (by decide) rfl p13 ?_
    refine j_aload_n C dX12_stepKept_38 rfl rfl ?_
    refine j_dup C dX12_stepKept_39 rfl ?_
    refine gM_272 (v := (h 0 60)) C dX12_stepKept_40 ((hz_k (by decide)).trans (hz_k (by decide))) ?_
    refine j_iconst (v := 1) C dX12_stepKept_43 (by decide) ?_
    refine j_iadd C dX12_stepKept_44 ?_
    refine pM_272 C dX12_stepKept_45 ?_
    exact j_vl (tX12_stepKept_48 C  a0 (h 0 23) (hs (hs (hs h 37 (h 0 60).toNatClampNeg (h 0 24)) 38 (h 0 60).toNatClampNeg a0) 0 60 ((h 0 60) + 1)) hP hR) ⟨rfl, rfl, rfl, trivial⟩
theorem MX12_stepKept {l0 : Launch} {Y : fj_Y} {ad : Nat → Nat} (a0 : Int32) (h : ph_H) (hP : PX12_stepKept a0 h) : MV l0 yX12_stepKept cX12_stepKept 4 ({ frames := 5, cells := 0, slots := 0, locals := 110 } : Room) Y ad 50 SM h [.ref (ad 0), .int a0] (fun S' h' => S' = SM ∧ h' = FX12_stepKept a0 h) := met_v (by decide) (Nat.le_of_ble_eq_true rfl) (fun X C K => j_vl (tX12_stepKept C a0 h hP (fun pc lv hd => K _ _ ⟨rfl, rfl⟩ pc lv hd)) ⟨rfl, rfl, trivial⟩)

-- X12_ending
def FX12_ending_57 (L23 : Int32 → Int32 → ph_H → Int32) (x2 : Int32) (s0 : Int32) (h : ph_H) : Int32 := L23 s0 (x2 + 1) h
def PX12_ending_57 (LP23 : Int32 → Int32 → ph_H → Prop) (x2 : Int32) (s0 : Int32) (h : ph_H) : Prop := LP23 s0 (x2 + 1) h
set_option maxRecDepth 100000 in
set_option maxHeartbeats 4000000 in
theorem tX12_ending_57 {X : fj_X} {Y : fj_Y} {l0 : Launch} {ad : Nat → Nat} (C : FC X Y l0 cX12_ending 3 RX12 ({ frames := 4, cells := 0, slots := 0, locals := 89 } : Room) 0 0 (some .int)) (h : ph_H) (L23 : Int32 → Int32 → ph_H → Int32) (LP23 : Int32 → Int32 → ph_H → Prop) (hL23 : ∀ (x1 : Int32) (x2 : Int32), LP23 x1 x2 h → RETp X Y ad 50 SM h cX12_ending (L23 x1 x2 h) → FJ X Y ad 50 SM h 23 [(0, .ref (ad 0)), (1, .int x1), (2, .int x2)] []) (x2 : Int32) (s0 : Int32) (hP : PX12_ending_57 LP23 x2 s0 h) (hR : RETp X Y ad 50 SM h cX12_ending (FX12_ending_57 L23 x2 s0 h)) : FJ X Y ad 50 SM h 57 [(0, .ref (ad 0)), (2, .int x2)] [.int s0] := by
  unfold PX12_ending_57 at hP
  unfold FX12_ending_57 at hR
  refine j_istore_n C dX12_ending_57 rfl (by decide) rfl ?_
  refine j_iinc (v := (x2 + 1)) C dX12_ending_58 rfl rfl (by decide) rfl ?_
  refine j_goto (tgt := 23) C dX12_ending_61 (by decide) ?_
  exact j_vl (hL23 s0 (x2 + 1) hP hR) ⟨rfl, rfl, rfl, trivial⟩
def FX12_ending_52 (L23 : Int32 → Int32 → ph_H → Int32) (x2 : Int32) (h : ph_H) : Int32 := FX12_ending_57 L23 x2 1 h
def PX12_ending_52 (LP23 : Int32 → Int32 → ph_H → Prop) (x2 : Int32) (h : ph_H) : Prop := PX12_ending_57 LP23 x2 1 h
set_option maxRecDepth 100000 in
set_option maxHeartbeats 4000000 in
theorem tX12_ending_52 {X : fj_X} {Y : fj_Y} {l0 : Launch} {ad : Nat → Nat} (C : FC X Y l0 cX12_ending 3 RX12 ({ frames := 4, cells := 0, slots := 0, locals := 89 } : Room) 0 0 (some .int)) (h : ph_H) (L23 : Int32 → Int32 → ph_H → Int32) (LP23 : Int32 → Int32 → ph_H → Prop) (hL23 : ∀ (x1 : Int32) (x2 : Int32), LP23 x1 x2 h → RETp X Y ad 50 SM h cX12_ending (L23 x1 x2 h) → FJ X Y ad 50 SM h 23 [(0, .ref (ad 0)), (1, .int x1), (2, .int x2)] []) (x2 : Int32) (hP : PX12_ending_52 LP23 x2 h) (hR : RETp X Y ad 50 SM h cX12_ending (FX12_ending_52 L23 x2 h)) : FJ X Y ad 50 SM h 52 [(0, .ref (ad 0)), (2, .int x2)] [] := by
  unfold PX12_ending_52 at hP
  unfold FX12_ending_52 at hR
  refine j_iconst (v := 1) C dX12_ending_52 (by decide) ?_
  refine j_goto (tgt := 57) C dX12_ending_53 (by decide) ?_
  exact j_vl (tX12_ending_57 C h L23 LP23 hL23 x2 1 hP hR) ⟨rfl, rfl, trivial⟩
def FX12_ending_56 (L23 : Int32 → Int32 → ph_H → Int32) (x2 : Int32) (h : ph_H) : Int32 := FX12_ending_57 L23 x2 0 h
def PX12_ending_56 (LP23 : Int32 → Int32 → ph_H → Prop) (x2 : Int32) (h : ph_H) : Prop := PX12_ending_57 LP23 x2 0 h
set_option maxRecDepth 100000 in
set_option maxHeartbeats 4000000 in
theorem tX12_ending_56 {X : fj_X} {Y : fj_Y} {l0 : Launch} {ad : Nat → Nat} (C : FC X Y l0 cX12_ending 3 RX12 ({ frames := 4, cells := 0, slots := 0, locals := 89 } : Room) 0 0 (some .int)) (h : ph_H) (L23 : Int32 → Int32 → ph_H → Int32) (LP23 : Int32 → Int32 → ph_H → Prop) (hL23 : ∀ (x1 : Int32) (x2 : Int32), LP23 x1 x2 h → RETp X Y ad 50 SM h cX12_ending (L23 x1 x2 h) → FJ X Y ad 50 SM h 23 [(0, .ref (ad 0)), (1, .int x1), (2, .int x2)] []) (x2 : Int32) (hP : PX12_ending_56 LP23 x2 h) (hR : RETp X Y ad 50 SM h cX12_ending (FX12_ending_56 L23 x2 h)) : FJ X Y ad 50 SM h 56 [(0, .ref (ad 0)), (2, .int x2)] [] := by
  unfold PX12_ending_56 at hP
  unfold FX12_ending_56 at hR
  refine j_iconst (v := 0) C dX12_ending_56 (by decide) ?_
  exact j_vl (tX12_ending_57 C h L23 LP23 hL23 x2 0 hP hR) ⟨rfl, rfl, trivial⟩
def FX12_ending_23  : Nat → Int32 → Int32 → ph_H → Int32
  | 0, _, _, _ => 0
  | q + 1, x1, x2, h => if 4 ≤ x2 then (if x1 = 0 then (1) else (0)) else (if x1 = 0 then (FX12_ending_56 (FX12_ending_23  q) x2 h) else (if (h 13 (x2.toNatClampNeg)) = 0 then (FX12_ending_52 (FX12_ending_23  q) x2 h) else (if (h 12 (x2.toNatClampNeg)) = 24 then (FX12_ending_52 (FX12_ending_23  q) x2 h) else (FX12_ending_56 (FX12_ending_23  q) x2 h))))
def PX12_ending_23  : Nat → Int32 → Int32 → ph_H → Prop
  | 0, _, _, _ => False
  | q + 1, x1, x2, h => (4 ≤ x2 → ((x1 = 0 → (True)) ∧ (¬ x1 = 0 → (True)))) ∧ (¬ 4 ≤ x2 → ((x1 = 0 → (PX12_ending_56 (PX12_ending_23  q) x2 h)) ∧ (¬ x1 = 0 → (vp_in x2 4 ∧ (((h 13 (x2.toNatClampNeg)) = 0 → (PX12_ending_52 (PX12_ending_23  q) x2 h)) ∧ (¬ (h 13 (x2.toNatClampNeg)) = 0 → (vp_in x2 4 ∧ (((h 12 (x2.toNatClampNeg)) = 24 → (PX12_ending_52 (PX12_ending_23  q) x2 h)) ∧ (¬ (h 12 (x2.toNatClampNeg)) = 24 → (PX12_ending_56 (PX12_ending_23  q) x2 h))))))))))
set_option maxRecDepth 100000 in
set_option maxHeartbeats 4000000 in
theorem tX12_ending_23 {X : fj_X} {Y : fj_Y} {l0 : Launch} {ad : Nat → Nat} (C : FC X Y l0 cX12_ending 3 RX12 ({ frames := 4, cells := 0, slots := 0, locals := 89 } : Room) 0 0 (some .int)) (h : ph_H) : ∀ (q : Nat) (x1 : Int32) (x2 : Int32), PX12_ending_23  q x1 x2 h → RETp X Y ad 50 SM h cX12_ending (FX12_ending_23  q x1 x2 h) → FJ X Y ad 50 SM h 23 [(0, .ref (ad 0)), (1, .int x1), (2, .int x2)] [] := by
  intro q
  induction q with
  | zero =>
    intro x1 x2 hP hR
    exact absurd hP id
  | succ q ih =>
    intro x1 x2 hP hR
    unfold PX12_ending_23 at hP
    unfold FX12_ending_23 at hR
    refine j_iload_n C dX12_ending_23 rfl rfl ?_
    refine j_iconst (v := 4) C dX12_ending_24 (by decide) ?_
    refine j_icmp_ge (tgt := 64) C dX12_ending_25 (by decide) (fun c0 => ?_) (fun c0 => ?_)
    · have hP := hP.1 c0
      rw [if_pos c0] at hR
      refine j_iload_n C dX12_ending_64 rfl rfl ?_
      refine j_if_eq (tgt := 72) C dX12_ending_65 (by decide) (fun c1 => ?_) (fun c1 => ?_)
      · have hP := hP.1 c1
        rw [if_pos c1] at hR
        refine j_iconst (v := 1) C dX12_ending_72 (by decide) ?_
        exact hR _ _ dX12_ending_73
      · have hP := hP.2 c1
        rw [if_neg c1] at hR
        refine j_iconst (v := 0) C dX12_ending_68 (by decide) ?_
        refine j_goto (tgt := 73) C dX12_ending_69 (by decide) ?_
        exact hR _ _ dX12_ending_73
    · have hP := hP.2 c0
      rw [if_neg c0] at hR
      refine j_iload_n C dX12_ending_28 rfl rfl ?_
      refine j_if_eq (tgt := 56) C dX12_ending_29 (by decide) (fun c1 => ?_) (fun c1 => ?_)
      · have hP := hP.1 c1
        rw [if_pos c1] at hR
        exact j_vl (tX12_ending_56 C h (FX12_ending_23  q) (PX12_ending_23  q) (ih) x2 hP hR) ⟨rfl, rfl, trivial⟩
      · have hP := hP.2 c1
        rw [if_neg c1] at hR
        refine j_aload_n C dX12_ending_32 rfl rfl ?_
        refine gM_46 C dX12_ending_33 ?_
        refine j_iload_n C dX12_ending_36 rfl rfl ?_
        obtain ⟨p3, hP⟩ := hP
        refine j_zald (k := 13) (v := (h 13 (x2.toNatClampNeg))) C dX12_ending_37 (by decide) rfl p3 rfl ?_
        refine j_if_eq (tgt := 52) C dX12_ending_38 (by decide) (fun c2 => ?_) (fun c2 => ?_)
        · have hP := hP.1 c2
          rw [if_pos c2] at hR
          exact j_vl (tX12_ending_52 C h (FX12_ending_23  q) (PX12_ending_23  q) (ih) x2 hP hR) ⟨rfl, rfl, trivial⟩
        · have hP := hP.2 c2
          rw [if_neg c2] at hR
          refine j_aload_n C dX12_ending_41 rfl rfl ?_
          refine gM_43 C dX12_ending_42 ?_
          refine j_iload_n C dX12_ending_45 rfl rfl ?_
          obtain ⟨p3, hP⟩ := hP
          refine j_iald (k := 12) (v := (h 12 (x2.toNatClampNeg))) C dX12_ending_46 (by decide) rfl p3 rfl ?_
          refine j_bipush (v := 24) C dX12_ending_47 (by decide) ?_
          refine j_icmp_ne (tgt := 56) C dX12_ending_49 (by decide) (fun c3 => ?_) (fun c3 => ?_)
          · have hP := hP.2 c3
            rw [if_neg c3] at hR
            exact j_vl (tX12_ending_56 C h (FX12_ending_23  q) (PX12_ending_23  q) (ih) x2 hP hR) ⟨rfl, rfl, trivial⟩
          · have hP := hP.1 c3
            rw [if_pos c3] at hR
            exact j_vl (tX12_ending_52 C h (FX12_ending_23  q) (PX12_ending_23  q) (ih) x2 hP hR) ⟨rfl, rfl, trivial⟩
def FX12_ending (h : ph_H) : Int32 := if (h 0 25) ≤ 0 then (if (FX12_free 0 h) < 0 then (FX12_ending_23 2000 1 0 h) else (3)) else (2)
def PX12_ending (h : ph_H) : Prop := ((h 0 25) ≤ 0 → ((PX12_free 0 h) ∧ (((FX12_free 0 h) < 0 → (PX12_ending_23 2000 1 0 h)) ∧ (¬ (FX12_free 0 h) < 0 → (True))))) ∧ (¬ (h 0 25) ≤ 0 → (True))
set_option maxRecDepth 100000 in
set_option maxHeartbeats 4000000 in
theorem tX12_ending {X : fj_X} {Y : fj_Y} {l0 : Launch} {ad : Nat → Nat} (C : FC X Y l0 cX12_ending 3 RX12 ({ frames := 4, cells := 0, slots := 0, locals := 89 } : Room) 0 0 (some .int)) (h : ph_H) (hP : PX12_ending h) (hR : RETp X Y ad 50 SM h cX12_ending (FX12_ending h)) : FJ X Y ad 50 SM h 0 [(0, .ref (ad 0))] [] := by
  unfold PX12_ending at hP
  unfold FX12_ending at hR
  refine j_aload_n C dX12_ending_0 rfl rfl ?_
  refine gM_194 (v := (h 0 25)) C dX12_ending_1 rfl ?_
  refine j_if_le (tgt := 9) C dX12_ending_4 (by decide) (fun c0 => ?_) (fun c0 => ?_)
  · have hP := hP.1 c0
    rw [if_pos c0] at hR
    refine j_aload_n C dX12_ending_9 rfl rfl ?_
    refine j_iconst (v := 0) C dX12_ending_10 (by decide) ?_
    obtain ⟨p2, hP⟩ := hP
    refine j_callV C (MX12_free 0 h p2) dX12_ending_11 (CKX12_free (by decide)) ⟨rfl, rfl⟩ lk_RX12_282 in_X12_free se_X12_free (by decide) rfl rfl rfl (Nat.le_of_ble_eq_true rfl) ?_
    intro r S' h' hq
    obtain ⟨rfl, hh, rfl⟩ := hq
    rw [hh]
    refine j_if_lt (tgt := 19) C dX12_ending_14 (by decide) (fun c1 => ?_) (fun c1 => ?_)
    · have hP := hP.1 c1
      rw [if_pos c1] at hR
      refine j_iconst (v := 1) C dX12_ending_19 (by decide) ?_
      refine j_istore_n C dX12_ending_20 rfl (by decide) rfl ?_
      refine j_iconst (v := 0) C dX12_ending_21 (by decide) ?_
      refine j_istore_n C dX12_ending_22 rfl (by decide) rfl ?_
      exact j_vl (tX12_ending_23 C h 2000 1 0 hP hR) ⟨rfl, rfl, rfl, trivial⟩
    · have hP := hP.2 c1
      rw [if_neg c1] at hR
      refine j_iconst (v := 3) C dX12_ending_17 (by decide) ?_
      exact hR _ _ dX12_ending_18
  · have hP := hP.2 c0
    rw [if_neg c0] at hR
    refine j_iconst (v := 2) C dX12_ending_7 (by decide) ?_
    exact hR _ _ dX12_ending_8
theorem MX12_ending {l0 : Launch} {Y : fj_Y} {ad : Nat → Nat} (h : ph_H) (hP : PX12_ending h) : MI l0 yX12_ending cX12_ending 3 (some .int) ({ frames := 4, cells := 0, slots := 0, locals := 89 } : Room) Y ad 50 SM h [.ref (ad 0)] (fun r S' h' => S' = SM ∧ h' = h ∧ r = FX12_ending h) := met_i (by decide) (Nat.le_of_ble_eq_true rfl) (fun _ _ _ _ => rfl) (fun X C K => j_vl (tX12_ending C h hP (fun pc lv hd => K _ _ _ ⟨rfl, rfl, rfl⟩ pc lv hd)) ⟨rfl, trivial⟩)
