-- X12_workPlain
def FX12_workPlain_116  (h : ph_H) : ph_H := h
def PX12_workPlain_116  (h : ph_H) : Prop := True
set_option maxRecDepth 100000 in
set_option maxHeartbeats 4000000 in
theorem tX12_workPlain_116 {X : fj_X} {Y : fj_Y} {l0 : Launch} {ad : Nat → Nat} (C : FC X Y l0 cX12_workPlain 8 RX12 ({ frames := 1, cells := 0, slots := 0, locals := 24 } : Room) 0 0 none) (h : ph_H) (hP : PX12_workPlain_116  h) (hR : RETv X Y ad 50 SM cX12_workPlain (FX12_workPlain_116  h)) : FJ X Y ad 50 SM h 116 [] [] := by
  unfold PX12_workPlain_116 at hP
  unfold FX12_workPlain_116 at hR
  refine j_goto (tgt := 302) C dX12_workPlain_116 (by decide) ?_
  exact hR _ _ dX12_workPlain_302
def FX12_workPlain_153  (h : ph_H) : ph_H := h
def PX12_workPlain_153  (h : ph_H) : Prop := True
set_option maxRecDepth 100000 in
set_option maxHeartbeats 4000000 in
theorem tX12_workPlain_153 {X : fj_X} {Y : fj_Y} {l0 : Launch} {ad : Nat → Nat} (C : FC X Y l0 cX12_workPlain 8 RX12 ({ frames := 1, cells := 0, slots := 0, locals := 24 } : Room) 0 0 none) (h : ph_H) (hP : PX12_workPlain_153  h) (hR : RETv X Y ad 50 SM cX12_workPlain (FX12_workPlain_153  h)) : FJ X Y ad 50 SM h 153 [] [] := by
  unfold PX12_workPlain_153 at hP
  unfold FX12_workPlain_153 at hR
  refine j_goto (tgt := 302) C dX12_workPlain_153 (by decide) ?_
  exact hR _ _ dX12_workPlain_302
def FX12_workPlain_191  (h : ph_H) : ph_H := h
def PX12_workPlain_191  (h : ph_H) : Prop := True
set_option maxRecDepth 100000 in
set_option maxHeartbeats 4000000 in
theorem tX12_workPlain_191 {X : fj_X} {Y : fj_Y} {l0 : Launch} {ad : Nat → Nat} (C : FC X Y l0 cX12_workPlain 8 RX12 ({ frames := 1, cells := 0, slots := 0, locals := 24 } : Room) 0 0 none) (h : ph_H) (hP : PX12_workPlain_191  h) (hR : RETv X Y ad 50 SM cX12_workPlain (FX12_workPlain_191  h)) : FJ X Y ad 50 SM h 191 [] [] := by
  unfold PX12_workPlain_191 at hP
  unfold FX12_workPlain_191 at hR
  refine j_goto (tgt := 302) C dX12_workPlain_191 (by decide) ?_
  exact hR _ _ dX12_workPlain_302
def FX12_workPlain_222  (h : ph_H) : ph_H := h
def PX12_workPlain_222  (h : ph_H) : Prop := True
set_option maxRecDepth 100000 in
set_option maxHeartbeats 4000000 in
theorem tX12_workPlain_222 {X : fj_X} {Y : fj_Y} {l0 : Launch} {ad : Nat → Nat} (C : FC X Y l0 cX12_workPlain 8 RX12 ({ frames := 1, cells := 0, slots := 0, locals := 24 } : Room) 0 0 none) (h : ph_H) (hP : PX12_workPlain_222  h) (hR : RETv X Y ad 50 SM cX12_workPlain (FX12_workPlain_222  h)) : FJ X Y ad 50 SM h 222 [] [] := by
  unfold PX12_workPlain_222 at hP
  unfold FX12_workPlain_222 at hR
  refine j_goto (tgt := 302) C dX12_workPlain_222 (by decide) ?_
  exact hR _ _ dX12_workPlain_302
def FX12_workPlain_219  (s0 : Int32) (s1 : Int32) (s2 : Int32) (h : ph_H) : ph_H := FX12_workPlain_222  (FX12_set s2 s1 s0 h)
def PX12_workPlain_219  (s0 : Int32) (s1 : Int32) (s2 : Int32) (h : ph_H) : Prop := (PX12_set s2 s1 s0 h) ∧ (PX12_workPlain_222  (FX12_set s2 s1 s0 h))
set_option maxRecDepth 100000 in
set_option maxHeartbeats 4000000 in
theorem tX12_workPlain_219 {X : fj_X} {Y : fj_Y} {l0 : Launch} {ad : Nat → Nat} (C : FC X Y l0 cX12_workPlain 8 RX12 ({ frames := 1, cells := 0, slots := 0, locals := 24 } : Room) 0 0 none) (s0 : Int32) (s1 : Int32) (s2 : Int32) (h : ph_H) (hP : PX12_workPlain_219  s0 s1 s2 h) (hR : RETv X Y ad 50 SM cX12_workPlain (FX12_workPlain_219  s0 s1 s2 h)) : FJ X Y ad 50 SM h 219 [] [.int s0, .int s1, .int s2, .ref (ad 0)] := by
  unfold PX12_workPlain_219 at hP
  unfold FX12_workPlain_219 at hR
  obtain ⟨p0, hP⟩ := hP
  refine j_callVv C (MX12_set s2 s1 s0 h p0) dX12_workPlain_219 (CKX12_set (by decide)) ⟨rfl, rfl⟩ lk_RX12_221 in_X12_set se_X12_set (by decide) rfl rfl rfl (Nat.le_of_ble_eq_true rfl) ?_
  intro S' h' hq
  obtain ⟨rfl, rfl⟩ := hq
  exact j_vl (tX12_workPlain_222 C  (FX12_set s2 s1 s0 h) hP hR) trivial
def FX12_workPlain_206  (x3 : Int32) (s0 : Int32) (h : ph_H) : ph_H := FX12_workPlain_219  ((FX12_newThing s0 0 h).1) s0 x3 ((FX12_newThing s0 0 h).2)
def PX12_workPlain_206  (x3 : Int32) (s0 : Int32) (h : ph_H) : Prop := (PX12_newThing s0 0 h) ∧ (PX12_workPlain_219  ((FX12_newThing s0 0 h).1) s0 x3 ((FX12_newThing s0 0 h).2))
set_option maxRecDepth 100000 in
set_option maxHeartbeats 4000000 in
theorem tX12_workPlain_206 {X : fj_X} {Y : fj_Y} {l0 : Launch} {ad : Nat → Nat} (C : FC X Y l0 cX12_workPlain 8 RX12 ({ frames := 1, cells := 0, slots := 0, locals := 24 } : Room) 0 0 none) (x3 : Int32) (s0 : Int32) (h : ph_H) (hP : PX12_workPlain_206  x3 s0 h) (hR : RETv X Y ad 50 SM cX12_workPlain (FX12_workPlain_206  x3 s0 h)) : FJ X Y ad 50 SM h 206 [(0, .ref (ad 0)), (3, .int x3)] [.int s0] := by
  unfold PX12_workPlain_206 at hP
  unfold FX12_workPlain_206 at hR
  refine j_istore C dX12_workPlain_206 (by decide) rfl ?_
  refine j_aload_n C dX12_workPlain_208 rfl rfl ?_
  refine j_iload_n C dX12_workPlain_209 rfl rfl ?_
  refine j_iload C dX12_workPlain_210 rfl ?_
  refine j_aload_n C dX12_workPlain_212 rfl rfl ?_
  refine j_iload C dX12_workPlain_213 rfl ?_
  refine j_iconst (v := 0) C dX12_workPlain_215 (by decide) ?_
  obtain ⟨p7, hP⟩ := hP
  refine j_callV C (MX12_newThing s0 0 h p7) dX12_workPlain_216 (CKX12_newThing (by decide)) ⟨rfl, rfl⟩ lk_RX12_225 in_X12_newThing se_X12_newThing (by decide) rfl rfl rfl (Nat.le_of_ble_eq_true rfl) ?_
  intro r S' h' hq
  obtain ⟨rfl, rfl, rfl⟩ := hq
  exact j_vl (tX12_workPlain_219 C  ((FX12_newThing s0 0 h).1) s0 x3 ((FX12_newThing s0 0 h).2) hP hR) trivial
def FX12_workPlain_259  (h : ph_H) : ph_H := (hs h 0 23 ((h 0 23) + 1))
def PX12_workPlain_259  (h : ph_H) : Prop := True
set_option maxRecDepth 100000 in
set_option maxHeartbeats 4000000 in
theorem tX12_workPlain_259 {X : fj_X} {Y : fj_Y} {l0 : Launch} {ad : Nat → Nat} (C : FC X Y l0 cX12_workPlain 8 RX12 ({ frames := 1, cells := 0, slots := 0, locals := 24 } : Room) 0 0 none) (h : ph_H) (hP : PX12_workPlain_259  h) (hR : RETv X Y ad 50 SM cX12_workPlain (FX12_workPlain_259  h)) : FJ X Y ad 50 SM h 259 [(0, .ref (ad 0))] [] := by
  unfold PX12_workPlain_259 at hP
  unfold FX12_workPlain_259 at hR
  refine j_aload_n C dX12_workPlain_259 rfl rfl ?_
  refine j_dup C dX12_workPlain_260 rfl ?_
  refine gM_188 (v := (h 0 23)) C dX12_workPlain_261 rfl ?_
  refine j_iconst (v := 1) C dX12_workPlain_264 (by decide) ?_
  refine j_iadd C dX12_workPlain_265 ?_
  refine pM_188 C dX12_workPlain_266 ?_
  refine j_goto (tgt := 302) C dX12_workPlain_269 (by decide) ?_
  exact hR _ _ dX12_workPlain_302
def FX12_workPlain_256  (s0 : Int32) (s1 : Int32) (s2 : Int32) (h : ph_H) : ph_H := FX12_workPlain_259  (FX12_set s2 s1 s0 h)
def PX12_workPlain_256  (s0 : Int32) (s1 : Int32) (s2 : Int32) (h : ph_H) : Prop := (PX12_set s2 s1 s0 h) ∧ (PX12_workPlain_259  (FX12_set s2 s1 s0 h))
set_option maxRecDepth 100000 in
set_option maxHeartbeats 4000000 in
theorem tX12_workPlain_256 {X : fj_X} {Y : fj_Y} {l0 : Launch} {ad : Nat → Nat} (C : FC X Y l0 cX12_workPlain 8 RX12 ({ frames := 1, cells := 0, slots := 0, locals := 24 } : Room) 0 0 none) (s0 : Int32) (s1 : Int32) (s2 : Int32) (h : ph_H) (hP : PX12_workPlain_256  s0 s1 s2 h) (hR : RETv X Y ad 50 SM cX12_workPlain (FX12_workPlain_256  s0 s1 s2 h)) : FJ X Y ad 50 SM h 256 [(0, .ref (ad 0))] [.int s0, .int s1, .int s2, .ref (ad 0)] := by
  unfold PX12_workPlain_256 at hP
  unfold FX12_workPlain_256 at hR
  obtain ⟨p0, hP⟩ := hP
  refine j_callVv C (MX12_set s2 s1 s0 h p0) dX12_workPlain_256 (CKX12_set (by decide)) ⟨rfl, rfl⟩ lk_RX12_221 in_X12_set se_X12_set (by decide) rfl rfl rfl (Nat.le_of_ble_eq_true rfl) ?_
  intro S' h' hq
  obtain ⟨rfl, rfl⟩ := hq
  exact j_vl (tX12_workPlain_259 C  (FX12_set s2 s1 s0 h) hP hR) ⟨rfl, trivial⟩
def FX12_workPlain (a0 : Int32) (a1 : Int32) (a2 : Int32) (a3 : Int32) (h : ph_H) : ph_H := if (h 2 (a1.toNatClampNeg)) = 0 then (FX12_workPlain_116  (FX12_set a2 0 (h 4 (a1.toNatClampNeg)) h)) else (if (h 2 (a1.toNatClampNeg)) = 1 then (FX12_workPlain_153  (FX12_set a2 (h 10 ((FX12_modulo (h 4 (a1.toNatClampNeg)) 12).toNatClampNeg)) (h 11 ((FX12_modulo (h 4 (a1.toNatClampNeg)) 12).toNatClampNeg)) (hs h 0 29 (FX12_modulo (h 4 (a1.toNatClampNeg)) 12)))) else (if (h 2 (a1.toNatClampNeg)) = 2 then (FX12_workPlain_191  (FX12_set (FX12_modulo (h 3 (a1.toNatClampNeg)) 12) (h 10 (a3.toNatClampNeg)) (h 11 (a3.toNatClampNeg)) (hs h 0 30 (FX12_modulo (h 3 (a1.toNatClampNeg)) 12)))) else (if (h 2 (a1.toNatClampNeg)) = 3 then (h) else (if (h 2 (a1.toNatClampNeg)) = 4 then (h) else (if (h 2 (a1.toNatClampNeg)) = 5 then (h) else (if (h 2 (a1.toNatClampNeg)) = 6 then (h) else (if (h 2 (a1.toNatClampNeg)) = 7 then (h) else (if (h 2 (a1.toNatClampNeg)) = 8 then (h) else (if (h 2 (a1.toNatClampNeg)) = 9 then (h) else (if (h 2 (a1.toNatClampNeg)) = 10 then (h) else (if (h 2 (a1.toNatClampNeg)) = 11 then (if ((h 4 (a1.toNatClampNeg)) - (h 4 (a1.toNatClampNeg)) / 2 * 2) = 0 then (FX12_workPlain_206  a2 2 h) else (FX12_workPlain_206  a2 3 h)) else (if (h 2 (a1.toNatClampNeg)) = 12 then (h) else (if (h 2 (a1.toNatClampNeg)) = 13 then (h) else (if (h 2 (a1.toNatClampNeg)) = 14 then (h) else (if (h 2 (a1.toNatClampNeg)) = 15 then (h) else (if (h 2 (a1.toNatClampNeg)) = 16 then (if (h 0 33) = 0 then (FX12_workPlain_256  (h 7 ((h 0 23).toNatClampNeg)) 0 a2 h) else (FX12_workPlain_256  (h 36 ((h 0 23).toNatClampNeg)) 0 a2 h)) else (if (h 2 (a1.toNatClampNeg)) = 17 then ((hs (hs (hs h 13 (FX12_modulo (h 3 (a1.toNatClampNeg)) 4).toNatClampNeg (vp_nar .boolean 1)) 0 31 4) 0 32 (FX12_modulo (h 3 (a1.toNatClampNeg)) 4))) else (h))))))))))))))))))
def PX12_workPlain (a0 : Int32) (a1 : Int32) (a2 : Int32) (a3 : Int32) (h : ph_H) : Prop := vp_in a1 96 ∧ (vp_in a1 96 ∧ (vp_in a1 96 ∧ (((h 2 (a1.toNatClampNeg)) = 0 → ((PX12_set a2 0 (h 4 (a1.toNatClampNeg)) h) ∧ (PX12_workPlain_116  (FX12_set a2 0 (h 4 (a1.toNatClampNeg)) h)))) ∧ (¬ (h 2 (a1.toNatClampNeg)) = 0 → (((h 2 (a1.toNatClampNeg)) = 1 → ((PX12_modulo (h 4 (a1.toNatClampNeg)) 12) ∧ (vp_in (FX12_modulo (h 4 (a1.toNatClampNeg)) 12) 28 ∧ (vp_in (FX12_modulo (h 4 (a1.toNatClampNeg)) 12) 28 ∧ ((PX12_set a2 (h 10 ((FX12_modulo (h 4 (a1.toNatClampNeg)) 12).toNatClampNeg)) (h 11 ((FX12_modulo (h 4 (a1.toNatClampNeg)) 12).toNatClampNeg)) (hs h 0 29 (FX12_modulo (h 4 (a1.toNatClampNeg)) 12))) ∧ (PX12_workPlain_153  (FX12_set a2 (h 10 ((FX12_modulo (h 4 (a1.toNatClampNeg)) 12).toNatClampNeg)) (h 11 ((FX12_modulo (h 4 (a1.toNatClampNeg)) 12).toNatClampNeg)) (hs h 0 29 (FX12_modulo (h 4 (a1.toNatClampNeg)) 12))))))))) ∧ (¬ (h 2 (a1.toNatClampNeg)) = 1 → (((h 2 (a1.toNatClampNeg)) = 2 → ((PX12_modulo (h 3 (a1.toNatClampNeg)) 12) ∧ (vp_in a3 28 ∧ (vp_in a3 28 ∧ ((PX12_set (FX12_modulo (h 3 (a1.toNatClampNeg)) 12) (h 10 (a3.toNatClampNeg)) (h 11 (a3.toNatClampNeg)) (hs h 0 30 (FX12_modulo (h 3 (a1.toNatClampNeg)) 12))) ∧ (PX12_workPlain_191  (FX12_set (FX12_modulo (h 3 (a1.toNatClampNeg)) 12) (h 10 (a3.toNatClampNeg)) (h 11 (a3.toNatClampNeg)) (hs h 0 30 (FX12_modulo (h 3 (a1.toNatClampNeg)) 12))))))))) ∧ (¬ (h 2 (a1.toNatClampNeg)) = 2 → (((h 2 (a1.toNatClampNeg)) = 3 → (True)) ∧ (¬ (h 2 (a1.toNatClampNeg)) = 3 → (((h 2 (a1.toNatClampNeg)) = 4 → (True)) ∧ (¬ (h 2 (a1.toNatClampNeg)) = 4 → (((h 2 (a1.toNatClampNeg)) = 5 → (True)) ∧ (¬ (h 2 (a1.toNatClampNeg)) = 5 → (((h 2 (a1.toNatClampNeg)) = 6 → (True)) ∧ (¬ (h 2 (a1.toNatClampNeg)) = 6 → (((h 2 (a1.toNatClampNeg)) = 7 → (True)) ∧ (¬ (h 2 (a1.toNatClampNeg)) = 7 → (((h 2 (a1.toNatClampNeg)) = 8 → (True)) ∧ (¬ (h 2 (a1.toNatClampNeg)) = 8 → (((h 2 (a1.toNatClampNeg)) = 9 → (True)) ∧ (¬ (h 2 (a1.toNatClampNeg)) = 9 → (((h 2 (a1.toNatClampNeg)) = 10 → (True)) ∧ (¬ (h 2 (a1.toNatClampNeg)) = 10 → (((h 2 (a1.toNatClampNeg)) = 11 → ((((h 4 (a1.toNatClampNeg)) - (h 4 (a1.toNatClampNeg)) / 2 * 2) = 0 → (PX12_workPlain_206  a2 2 h)) ∧ (¬ ((h 4 (a1.toNatClampNeg)) - (h 4 (a1.toNatClampNeg)) / 2 * 2) = 0 → (PX12_workPlain_206  a2 3 h)))) ∧ (¬ (h 2 (a1.toNatClampNeg)) = 11 → (((h 2 (a1.toNatClampNeg)) = 12 → (True)) ∧ (¬ (h 2 (a1.toNatClampNeg)) = 12 → (((h 2 (a1.toNatClampNeg)) = 13 → (True)) ∧ (¬ (h 2 (a1.toNatClampNeg)) = 13 → (((h 2 (a1.toNatClampNeg)) = 14 → (True)) ∧ (¬ (h 2 (a1.toNatClampNeg)) = 14 → (((h 2 (a1.toNatClampNeg)) = 15 → (True)) ∧ (¬ (h 2 (a1.toNatClampNeg)) = 15 → (((h 2 (a1.toNatClampNeg)) = 16 → (((h 0 33) = 0 → (vp_in (h 0 23) 30 ∧ (PX12_workPlain_256  (h 7 ((h 0 23).toNatClampNeg)) 0 a2 h))) ∧ (¬ (h 0 33) = 0 → (vp_in (h 0 23) 30 ∧ (PX12_workPlain_256  (h 36 ((h 0 23).toNatClampNeg)) 0 a2 h))))) ∧ (¬ (h 2 (a1.toNatClampNeg)) = 16 → (((h 2 (a1.toNatClampNeg)) = 17 → ((PX12_modulo (h 3 (a1.toNatClampNeg)) 4) ∧ (vp_in (FX12_modulo (h 3 (a1.toNatClampNeg)) 4) 4 ∧ ((PX12_modulo (h 3 (a1.toNatClampNeg)) 4) ∧ (True))))) ∧ (¬ (h 2 (a1.toNatClampNeg)) = 17 → (True)))))))))))))))))))))))))))))))))))))))
set_option maxRecDepth 100000 in
set_option maxHeartbeats 4000000 in
theorem tX12_workPlain {X : fj_X} {Y : fj_Y} {l0 : Launch} {ad : Nat → Nat} (C : FC X Y l0 cX12_workPlain 8 RX12 ({ frames := 1, cells := 0, slots := 0, locals := 24 } : Room) 0 0 none) (a0 : Int32) (a1 : Int32) (a2 : Int32) (a3 : Int32) (h : ph_H) (hP : PX12_workPlain a0 a1 a2 a3 h) (hR : RETv X Y ad 50 SM cX12_workPlain (FX12_workPlain a0 a1 a2 a3 h)) : FJ X Y ad 50 SM h 0 [(0, .ref (ad 0)), (1, .int a0), (2, .int a1), (3, .int a2), (4, .int a3)] [] := by
  unfold PX12_workPlain at hP
  unfold FX12_workPlain at hR
  refine j_aload_n C dX12_workPlain_0 rfl rfl ?_
  refine gM_16 C dX12_workPlain_1 ?_
  refine j_iload_n C dX12_workPlain_4 rfl rfl ?_
  obtain ⟨p3, hP⟩ := hP
  refine j_iald (k := 3) (v := (h 3 (a1.toNatClampNeg))) C dX12_workPlain_5 (by decide) rfl p3 rfl ?_
  refine j_istore C dX12_workPlain_6 (by decide) rfl ?_
  refine j_aload_n C dX12_workPlain_8 rfl rfl ?_
  refine gM_19 C dX12_workPlain_9 ?_
  refine j_iload_n C dX12_workPlain_12 rfl rfl ?_
  obtain ⟨p9, hP⟩ := hP
  refine j_iald (k := 4) (v := (h 4 (a1.toNatClampNeg))) C dX12_workPlain_13 (by decide) rfl p9 rfl ?_
  refine j_istore C dX12_workPlain_14 (by decide) rfl ?_
  refine j_aload_n C dX12_workPlain_16 rfl rfl ?_
  refine gM_13 C dX12_workPlain_17 ?_
  refine j_iload_n C dX12_workPlain_20 rfl rfl ?_
  obtain ⟨p15, hP⟩ := hP
  refine j_iald (k := 2) (v := (h 2 (a1.toNatClampNeg))) C dX12_workPlain_21 (by decide) rfl p15 rfl ?_
  rcases Classical.em ((h 2 (a1.toNatClampNeg)) = 0) with c0 | c0
  · have hP := hP.1 c0
    rw [if_pos c0] at hR
    refine j_tableIn (tgt := 108) (off := 86) C dX12_workPlain_22 (by rw [c0]; decide) (by rw [c0]; decide) (by rw [c0]; decide) (by decide) ?_
    refine j_aload_n C dX12_workPlain_108 rfl rfl ?_
    refine j_iload_n C dX12_workPlain_109 rfl rfl ?_
    refine j_iconst (v := 0) C dX12_workPlain_110 (by decide) ?_
    refine j_iload C dX12_workPlain_111 rfl ?_
    obtain ⟨p4, hP⟩ := hP
    refine j_callVv C (MX12_set a2 0 (h 4 (a1.toNatClampNeg)) h p4) dX12_workPlain_113 (CKX12_set (by decide)) ⟨rfl, rfl⟩ lk_RX12_221 in_X12_set se_X12_set (by decide) rfl rfl rfl (Nat.le_of_ble_eq_true rfl) ?_
    intro S' h' hq
    obtain ⟨rfl, rfl⟩ := hq
    exact j_vl (tX12_workPlain_116 C  (FX12_set a2 0 (h 4 (a1.toNatClampNeg)) h) hP hR) trivial
  have hP := hP.2 c0
  rw [if_neg c0] at hR
  rcases Classical.em ((h 2 (a1.toNatClampNeg)) = 1) with c1 | c1
  · have hP := hP.1 c1
    rw [if_pos c1] at hR
    refine j_tableIn (tgt := 119) (off := 97) C dX12_workPlain_22 (by rw [c1]; decide) (by rw [c1]; decide) (by rw [c1]; decide) (by decide) ?_
    refine j_iload C dX12_workPlain_119 rfl ?_
    refine j_bipush (v := 12) C dX12_workPlain_121 (by decide) ?_
    obtain ⟨p2, hP⟩ := hP
    refine j_callS C (MX12_modulo (h 4 (a1.toNatClampNeg)) 12 h p2) dX12_workPlain_123 (CKX12_modulo (by decide)) ⟨rfl, rfl⟩ lk_RX12_204 st_X12_modulo rfl (Nat.le_of_ble_eq_true rfl) ?_
    intro r S' h' hq
    obtain ⟨rfl, hh, rfl⟩ := hq
    rw [hh]
    refine j_istore C dX12_workPlain_126 (by decide) rfl ?_
    refine j_aload_n C dX12_workPlain_128 rfl rfl ?_
    refine j_iload C dX12_workPlain_129 rfl ?_
    refine pM_228 C dX12_workPlain_131 ?_
    refine j_aload_n C dX12_workPlain_134 rfl rfl ?_
    refine j_iload_n C dX12_workPlain_135 rfl rfl ?_
    refine j_aload_n C dX12_workPlain_136 rfl rfl ?_
    refine gM_37 C dX12_workPlain_137 ?_
    refine j_iload C dX12_workPlain_140 rfl ?_
    obtain ⟨p16, hP⟩ := hP
    refine j_iald (k := 10) (v := (h 10 ((FX12_modulo (h 4 (a1.toNatClampNeg)) 12).toNatClampNeg))) C dX12_workPlain_142 (by decide) rfl p16 (hz_k (by decide)) ?_
    refine j_aload_n C dX12_workPlain_143 rfl rfl ?_
    refine gM_40 C dX12_workPlain_144 ?_
    refine j_iload C dX12_workPlain_147 rfl ?_
    obtain ⟨p21, hP⟩ := hP
    refine j_iald (k := 11) (v := (h 11 ((FX12_modulo (h 4 (a1.toNatClampNeg)) 12).toNatClampNeg))) C dX12_workPlain_149 (by decide) rfl p21 (hz_k (by decide)) ?_
    obtain ⟨p23, hP⟩ := hP
    refine j_callVv C (MX12_set a2 (h 10 ((FX12_modulo (h 4 (a1.toNatClampNeg)) 12).toNatClampNeg)) (h 11 ((FX12_modulo (h 4 (a1.toNatClampNeg)) 12).toNatClampNeg)) (hs h 0 29 (FX12_modulo (h 4 (a1.toNatClampNeg)) 12)) p23) dX12_workPlain_150 (CKX12_set (by decide)) ⟨rfl, rfl⟩ lk_RX12_221 in_X12_set se_X12_set (by decide) rfl rfl rfl (Nat.le_of_ble_eq_true rfl) ?_
    intro S' h' hq
    obtain ⟨rfl, rfl⟩ := hq
    exact j_vl (tX12_workPlain_153 C  (FX12_set a2 (h 10 ((FX12_modulo (h 4 (a1.toNatClampNeg)) 12).toNatClampNeg)) (h 11 ((FX12_modulo (h 4 (a1.toNatClampNeg)) 12).toNatClampNeg)) (hs h 0 29 (FX12_modulo (h 4 (a1.toNatClampNeg)) 12))) hP hR) trivial
  have hP := hP.2 c1
  rw [if_neg c1] at hR
  rcases Classical.em ((h 2 (a1.toNatClampNeg)) = 2) with c2 | c2
  · have hP := hP.1 c2
    rw [if_pos c2] at hR
    refine j_tableIn (tgt := 156) (off := 134) C dX12_workPlain_22 (by rw [c2]; decide) (by rw [c2]; decide) (by rw [c2]; decide) (by decide) ?_
    refine j_iload C dX12_workPlain_156 rfl ?_
    refine j_bipush (v := 12) C dX12_workPlain_158 (by decide) ?_
    obtain ⟨p2, hP⟩ := hP
    refine j_callS C (MX12_modulo (h 3 (a1.toNatClampNeg)) 12 h p2) dX12_workPlain_160 (CKX12_modulo (by decide)) ⟨rfl, rfl⟩ lk_RX12_204 st_X12_modulo rfl (Nat.le_of_ble_eq_true rfl) ?_
    intro r S' h' hq
    obtain ⟨rfl, hh, rfl⟩ := hq
    rw [hh]
    refine j_istore C dX12_workPlain_163 (by decide) rfl ?_
    refine j_aload_n C dX12_workPlain_165 rfl rfl ?_
    refine j_iload C dX12_workPlain_166 rfl ?_
    refine pM_231 C dX12_workPlain_168 ?_
    refine j_aload_n C dX12_workPlain_171 rfl rfl ?_
    refine j_iload C dX12_workPlain_172 rfl ?_
    refine j_aload_n C dX12_workPlain_174 rfl rfl ?_
    refine gM_37 C dX12_workPlain_175 ?_
    refine j_iload C dX12_workPlain_178 rfl ?_
    obtain ⟨p16, hP⟩ := hP
    refine j_iald (k := 10) (v := (h 10 (a3.toNatClampNeg))) C dX12_workPlain_180 (by decide) rfl p16 (hz_k (by decide)) ?_
    refine j_aload_n C dX12_workPlain_181 rfl rfl ?_
    refine gM_40 C dX12_workPlain_182 ?_
    refine j_iload C dX12_workPlain_185 rfl ?_
    obtain ⟨p21, hP⟩ := hP
    refine j_iald (k := 11) (v := (h 11 (a3.toNatClampNeg))) C dX12_workPlain_187 (by decide) rfl p21 (hz_k (by decide)) ?_
    obtain ⟨p23, hP⟩ := hP
    refine j_callVv C (MX12_set (FX12_modulo (h 3 (a1.toNatClampNeg)) 12) (h 10 (a3.toNatClampNeg)) (h 11 (a3.toNatClampNeg)) (hs h 0 30 (FX12_modulo (h 3 (a1.toNatClampNeg)) 12)) p23) dX12_workPlain_188 (CKX12_set (by decide)) ⟨rfl, rfl⟩ lk_RX12_221 in_X12_set se_X12_set (by decide) rfl rfl rfl (Nat.le_of_ble_eq_true rfl) ?_
    intro S' h' hq
    obtain ⟨rfl, rfl⟩ := hq
    exact j_vl (tX12_workPlain_191 C  (FX12_set (FX12_modulo (h 3 (a1.toNatClampNeg)) 12) (h 10 (a3.toNatClampNeg)) (h 11 (a3.toNatClampNeg)) (hs h 0 30 (FX12_modulo (h 3 (a1.toNatClampNeg)) 12))) hP hR) trivial
  have hP := hP.2 c2
  rw [if_neg c2] at hR
  rcases Classical.em ((h 2 (a1.toNatClampNeg)) = 3) with c3 | c3
  · have hP := hP.1 c3
    rw [if_pos c3] at hR
    refine j_tableIn (tgt := 302) (off := 280) C dX12_workPlain_22 (by rw [c3]; decide) (by rw [c3]; decide) (by rw [c3]; decide) (by decide) ?_
    exact hR _ _ dX12_workPlain_302
  have hP := hP.2 c3
  rw [if_neg c3] at hR
  rcases Classical.em ((h 2 (a1.toNatClampNeg)) = 4) with c4 | c4
  · have hP := hP.1 c4
    rw [if_pos c4] at hR
    refine j_tableIn (tgt := 302) (off := 280) C dX12_workPlain_22 (by rw [c4]; decide) (by rw [c4]; decide) (by rw [c4]; decide) (by decide) ?_
    exact hR _ _ dX12_workPlain_302
  have hP := hP.2 c4
  rw [if_neg c4] at hR
  rcases Classical.em ((h 2 (a1.toNatClampNeg)) = 5) with c5 | c5
  · have hP := hP.1 c5
    rw [if_pos c5] at hR
    refine j_tableIn (tgt := 302) (off := 280) C dX12_workPlain_22 (by rw [c5]; decide) (by rw [c5]; decide) (by rw [c5]; decide) (by decide) ?_
    exact hR _ _ dX12_workPlain_302
  have hP := hP.2 c5
  rw [if_neg c5] at hR
  rcases Classical.em ((h 2 (a1.toNatClampNeg)) = 6) with c6 | c6
  · have hP := hP.1 c6
    rw [if_pos c6] at hR
    refine j_tableIn (tgt := 302) (off := 280) C dX12_workPlain_22 (by rw [c6]; decide) (by rw [c6]; decide) (by rw [c6]; decide) (by decide) ?_
    exact hR _ _ dX12_workPlain_302
  have hP := hP.2 c6
  rw [if_neg c6] at hR
  rcases Classical.em ((h 2 (a1.toNatClampNeg)) = 7) with c7 | c7
  · have hP := hP.1 c7
    rw [if_pos c7] at hR
    refine j_tableIn (tgt := 302) (off := 280) C dX12_workPlain_22 (by rw [c7]; decide) (by rw [c7]; decide) (by rw [c7]; decide) (by decide) ?_
    exact hR _ _ dX12_workPlain_302
  have hP := hP.2 c7
  rw [if_neg c7] at hR
  rcases Classical.em ((h 2 (a1.toNatClampNeg)) = 8) with c8 | c8
  · have hP := hP.1 c8
    rw [if_pos c8] at hR
    refine j_tableIn (tgt := 302) (off := 280) C dX12_workPlain_22 (by rw [c8]; decide) (by rw [c8]; decide) (by rw [c8]; decide) (by decide) ?_
    exact hR _ _ dX12_workPlain_302
  have hP := hP.2 c8
  rw [if_neg c8] at hR
  rcases Classical.em ((h 2 (a1.toNatClampNeg)) = 9) with c9 | c9
  · have hP := hP.1 c9
    rw [if_pos c9] at hR
    refine j_tableIn (tgt := 302) (off := 280) C dX12_workPlain_22 (by rw [c9]; decide) (by rw [c9]; decide) (by rw [c9]; decide) (by decide) ?_
    exact hR _ _ dX12_workPlain_302
  have hP := hP.2 c9
  rw [if_neg c9] at hR
  rcases Classical.em ((h 2 (a1.toNatClampNeg)) = 10) with c10 | c10
  · have hP := hP.1 c10
    rw [if_pos c10] at hR
    refine j_tableIn (tgt := 302) (off := 280) C dX12_workPlain_22 (by rw [c10]; decide) (by rw [c10]; decide) (by rw [c10]; decide) (by decide) ?_
    exact hR _ _ dX12_workPlain_302
  have hP := hP.2 c10
  rw [if_neg c10] at hR
  rcases Classical.em ((h 2 (a1.toNatClampNeg)) = 11) with c11 | c11
  · have hP := hP.1 c11
    rw [if_pos c11] at hR
    refine j_tableIn (tgt := 194) (off := 172) C dX12_workPlain_22 (by rw [c11]; decide) (by rw [c11]; decide) (by rw [c11]; decide) (by decide) ?_
    refine j_iload C dX12_workPlain_194 rfl ?_
    refine j_iconst (v := 2) C dX12_workPlain_196 (by decide) ?_
    refine j_irem C dX12_workPlain_197 (by decide) ?_
    refine j_if_ne (tgt := 205) C dX12_workPlain_198 (by decide) (fun c12 => ?_) (fun c12 => ?_)
    · have hP := hP.2 c12
      rw [if_neg c12] at hR
      refine j_iconst (v := 3) C dX12_workPlain_205 (by decide) ?_
      exact j_vl (tX12_workPlain_206 C  a2 3 h hP hR) ⟨rfl, rfl, trivial⟩
    · have hP := hP.1 c12
      rw [if_pos c12] at hR
      refine j_iconst (v := 2) C dX12_workPlain_201 (by decide) ?_
      refine j_goto (tgt := 206) C dX12_workPlain_202 (by decide) ?_
      exact j_vl (tX12_workPlain_206 C  a2 2 h hP hR) ⟨rfl, rfl, trivial⟩
  have hP := hP.2 c11
  rw [if_neg c11] at hR
  rcases Classical.em ((h 2 (a1.toNatClampNeg)) = 12) with c12 | c12
  · have hP := hP.1 c12
    rw [if_pos c12] at hR
    refine j_tableIn (tgt := 302) (off := 280) C dX12_workPlain_22 (by rw [c12]; decide) (by rw [c12]; decide) (by rw [c12]; decide) (by decide) ?_
    exact hR _ _ dX12_workPlain_302
  have hP := hP.2 c12
  rw [if_neg c12] at hR
  rcases Classical.em ((h 2 (a1.toNatClampNeg)) = 13) with c13 | c13
  · have hP := hP.1 c13
    rw [if_pos c13] at hR
    refine j_tableIn (tgt := 302) (off := 280) C dX12_workPlain_22 (by rw [c13]; decide) (by rw [c13]; decide) (by rw [c13]; decide) (by decide) ?_
    exact hR _ _ dX12_workPlain_302
  have hP := hP.2 c13
  rw [if_neg c13] at hR
  rcases Classical.em ((h 2 (a1.toNatClampNeg)) = 14) with c14 | c14
  · have hP := hP.1 c14
    rw [if_pos c14] at hR
    refine j_tableIn (tgt := 302) (off := 280) C dX12_workPlain_22 (by rw [c14]; decide) (by rw [c14]; decide) (by rw [c14]; decide) (by decide) ?_
    exact hR _ _ dX12_workPlain_302
  have hP := hP.2 c14
  rw [if_neg c14] at hR
  rcases Classical.em ((h 2 (a1.toNatClampNeg)) = 15) with c15 | c15
  · have hP := hP.1 c15
    rw [if_pos c15] at hR
    refine j_tableIn (tgt := 302) (off := 280) C dX12_workPlain_22 (by rw [c15]; decide) (by rw [c15]; decide) (by rw [c15]; decide) (by decide) ?_
    exact hR _ _ dX12_workPlain_302
  have hP := hP.2 c15
  rw [if_neg c15] at hR
  rcases Classical.em ((h 2 (a1.toNatClampNeg)) = 16) with c16 | c16
  · have hP := hP.1 c16
    rw [if_pos c16] at hR
    refine j_tableIn (tgt := 225) (off := 203) C dX12_workPlain_22 (by rw [c16]; decide) (by rw [c16]; decide) (by rw [c16]; decide) (by decide) ?_
    refine j_aload_n C dX12_workPlain_225 rfl rfl ?_
    refine j_iload_n C dX12_workPlain_226 rfl rfl ?_
    refine j_iconst (v := 0) C dX12_workPlain_227 (by decide) ?_
    refine j_aload_n C dX12_workPlain_228 rfl rfl ?_
    refine gM_218 (v := (h 0 33)) C dX12_workPlain_229 rfl ?_
    refine j_if_eq (tgt := 247) C dX12_workPlain_232 (by decide) (fun c17 => ?_) (fun c17 => ?_)
    · have hP := hP.1 c17
      rw [if_pos c17] at hR
      refine j_aload_n C dX12_workPlain_247 rfl rfl ?_
      refine gM_28 C dX12_workPlain_248 ?_
      refine j_aload_n C dX12_workPlain_251 rfl rfl ?_
      refine gM_188 (v := (h 0 23)) C dX12_workPlain_252 rfl ?_
      obtain ⟨p4, hP⟩ := hP
      refine j_iald (k := 7) (v := (h 7 ((h 0 23).toNatClampNeg))) C dX12_workPlain_255 (by decide) rfl p4 rfl ?_
      exact j_vl (tX12_workPlain_256 C  (h 7 ((h 0 23).toNatClampNeg)) 0 a2 h hP hR) ⟨rfl, trivial⟩
    · have hP := hP.2 c17
      rw [if_neg c17] at hR
      refine j_aload_n C dX12_workPlain_235 rfl rfl ?_
      refine gM_117 C dX12_workPlain_236 ?_
      refine j_aload_n C dX12_workPlain_239 rfl rfl ?_
      refine gM_188 (v := (h 0 23)) C dX12_workPlain_240 rfl ?_
      obtain ⟨p4, hP⟩ := hP
      refine j_iald (k := 36) (v := (h 36 ((h 0 23).toNatClampNeg))) C dX12_workPlain_243 (by decide) rfl p4 rfl ?_
      refine j_goto (tgt := 256) C dX12_workPlain_244 (by decide) ?_
      exact j_vl (tX12_workPlain_256 C  (h 36 ((h 0 23).toNatClampNeg)) 0 a2 h hP hR) ⟨rfl, trivial⟩
  have hP := hP.2 c16
  rw [if_neg c16] at hR
  rcases Classical.em ((h 2 (a1.toNatClampNeg)) = 17) with c17 | c17
  · have hP := hP.1 c17
    rw [if_pos c17] at hR
    refine j_tableIn (tgt := 272) (off := 250) C dX12_workPlain_22 (by rw [c17]; decide) (by rw [c17]; decide) (by rw [c17]; decide) (by decide) ?_
    refine j_aload_n C dX12_workPlain_272 rfl rfl ?_
    refine gM_46 C dX12_workPlain_273 ?_
    refine j_iload C dX12_workPlain_276 rfl ?_
    refine j_iconst (v := 4) C dX12_workPlain_278 (by decide) ?_
    obtain ⟨p4, hP⟩ := hP
    refine j_callS C (MX12_modulo (h 3 (a1.toNatClampNeg)) 4 h p4) dX12_workPlain_279 (CKX12_modulo (by decide)) ⟨rfl, rfl⟩ lk_RX12_204 st_X12_modulo rfl (Nat.le_of_ble_eq_true rfl) ?_
    intro r S' h' hq
    obtain ⟨rfl, hh, rfl⟩ := hq
    rw [hh]
    refine j_iconst (v := 1) C dX12_workPlain_282 (by decide) ?_
    obtain ⟨p10, hP⟩ := hP
    refine j_zast (k := 13) C dX12_workPlain_283 (by decide) rfl p10 ?_
    refine j_aload_n C dX12_workPlain_284 rfl rfl ?_
    refine j_iconst (v := 4) C dX12_workPlain_285 (by decide) ?_
    refine pM_234 C dX12_workPlain_286 ?_
    refine j_aload_n C dX12_workPlain_289 rfl rfl ?_
    refine j_iload C dX12_workPlain_290 rfl ?_
    refine j_iconst (v := 4) C dX12_workPlain_292 (by decide) ?_
    obtain ⟨p18, hP⟩ := hP
    refine j_callS C (MX12_modulo (h 3 (a1.toNatClampNeg)) 4 (hs (hs h 13 (FX12_modulo (h 3 (a1.toNatClampNeg)) 4).toNatClampNeg (vp_nar .boolean 1)) 0 31 4) p18) dX12_workPlain_293 (CKX12_modulo (by decide)) ⟨rfl, rfl⟩ lk_RX12_204 st_X12_modulo rfl (Nat.le_of_ble_eq_true rfl) ?_
    intro r S' h' hq
    obtain ⟨rfl, hh, rfl⟩ := hq
    rw [hh]
    refine pM_237 C dX12_workPlain_296 ?_
    refine j_goto (tgt := 302) C dX12_workPlain_299 (by decide) ?_
    exact hR _ _ dX12_workPlain_302
  have hP := hP.2 c17
  rw [if_neg c17] at hR
  refine j_tableOut (tgt := 302) C dX12_workPlain_22 (sw_out (fun v h1 h2 e => by rcases (show v = 0 ∨ v = 1 ∨ v = 2 ∨ v = 3 ∨ v = 4 ∨ v = 5 ∨ v = 6 ∨ v = 7 ∨ v = 8 ∨ v = 9 ∨ v = 10 ∨ v = 11 ∨ v = 12 ∨ v = 13 ∨ v = 14 ∨ v = 15 ∨ v = 16 ∨ v = 17 by omega) with z | z | z | z | z | z | z | z | z | z | z | z | z | z | z | z | z | z <;> rw [z] at e <;> first | exact c0 (e.trans (by decide)) | exact c1 (e.trans (by decide)) | exact c2 (e.trans (by decide)) | exact c3 (e.trans (by decide)) | exact c4 (e.trans (by decide)) | exact c5 (e.trans (by decide)) | exact c6 (e.trans (by decide)) | exact c7 (e.trans (by decide)) | exact c8 (e.trans (by decide)) | exact c9 (e.trans (by decide)) | exact c10 (e.trans (by decide)) | exact c11 (e.trans (by decide)) | exact c12 (e.trans (by decide)) | exact c13 (e.trans (by decide)) | exact c14 (e.trans (by decide)) | exact c15 (e.trans (by decide)) | exact c16 (e.trans (by decide)) | exact c17 (e.trans (by decide)))) (by decide) ?_
  exact hR _ _ dX12_workPlain_302
theorem MX12_workPlain {l0 : Launch} {Y : fj_Y} {ad : Nat → Nat} (a0 : Int32) (a1 : Int32) (a2 : Int32) (a3 : Int32) (h : ph_H) (hP : PX12_workPlain a0 a1 a2 a3 h) : MV l0 yX12_workPlain cX12_workPlain 8 ({ frames := 1, cells := 0, slots := 0, locals := 24 } : Room) Y ad 50 SM h [.ref (ad 0), .int a0, .int a1, .int a2, .int a3] (fun S' h' => S' = SM ∧ h' = FX12_workPlain a0 a1 a2 a3 h) := met_v (by decide) (Nat.le_of_ble_eq_true rfl) (fun X C K => j_vl (tX12_workPlain C a0 a1 a2 a3 h hP (fun pc lv hd => K _ _ ⟨rfl, rfl⟩ pc lv hd)) ⟨rfl, rfl, rfl, rfl, rfl, trivial⟩)

-- X12_instruct
def FX12_instruct_251  (s0 : Int32) (s1 : Int32) (h : ph_H) : ph_H := (FX12_goTo s1 s0 h)
def PX12_instruct_251  (s0 : Int32) (s1 : Int32) (h : ph_H) : Prop := (PX12_goTo s1 s0 h) ∧ (True)
set_option maxRecDepth 100000 in
set_option maxHeartbeats 4000000 in
theorem tX12_instruct_251 {X : fj_X} {Y : fj_Y} {l0 : Launch} {ad : Nat → Nat} (C : FC X Y l0 cX12_instruct 8 RX12 ({ frames := 2, cells := 0, slots := 0, locals := 51 } : Room) 0 0 none) (s0 : Int32) (s1 : Int32) (h : ph_H) (hP : PX12_instruct_251  s0 s1 h) (hR : RETv X Y ad 50 SM cX12_instruct (FX12_instruct_251  s0 s1 h)) : FJ X Y ad 50 SM h 251 [] [.int s0, .int s1, .ref (ad 0)] := by
  unfold PX12_instruct_251 at hP
  unfold FX12_instruct_251 at hR
  obtain ⟨p0, hP⟩ := hP
  refine j_callVv C (MX12_goTo s1 s0 h p0) dX12_instruct_251 (CKX12_goTo (by decide)) ⟨rfl, rfl⟩ lk_RX12_246 in_X12_goTo se_X12_goTo (by decide) rfl rfl rfl (Nat.le_of_ble_eq_true rfl) ?_
  intro S' h' hq
  obtain ⟨rfl, rfl⟩ := hq
  exact hR _ _ dX12_instruct_254
def FX12_instruct_204  (x1 : Int32) (x2 : Int32) (x6 : Int32) (x7 : Int32) (h : ph_H) : ph_H := if (h 2 (x2.toNatClampNeg)) = 14 then (h) else (if (h 2 (x2.toNatClampNeg)) = 19 then (FX12_instruct_251  24 x1 h) else (if x6 = 0 then (FX12_instruct_251  ((h 12 (x1.toNatClampNeg)) + 1) x1 h) else (FX12_instruct_251  x7 x1 h)))
def PX12_instruct_204  (x1 : Int32) (x2 : Int32) (x6 : Int32) (x7 : Int32) (h : ph_H) : Prop := vp_in x2 96 ∧ (((h 2 (x2.toNatClampNeg)) = 14 → (True)) ∧ (¬ (h 2 (x2.toNatClampNeg)) = 14 → (vp_in x2 96 ∧ (((h 2 (x2.toNatClampNeg)) = 19 → (PX12_instruct_251  24 x1 h)) ∧ (¬ (h 2 (x2.toNatClampNeg)) = 19 → ((x6 = 0 → (vp_in x1 4 ∧ (PX12_instruct_251  ((h 12 (x1.toNatClampNeg)) + 1) x1 h))) ∧ (¬ x6 = 0 → (PX12_instruct_251  x7 x1 h))))))))
set_option maxRecDepth 100000 in
set_option maxHeartbeats 4000000 in
theorem tX12_instruct_204 {X : fj_X} {Y : fj_Y} {l0 : Launch} {ad : Nat → Nat} (C : FC X Y l0 cX12_instruct 8 RX12 ({ frames := 2, cells := 0, slots := 0, locals := 51 } : Room) 0 0 none) (x1 : Int32) (x2 : Int32) (x6 : Int32) (x7 : Int32) (h : ph_H) (hP : PX12_instruct_204  x1 x2 x6 x7 h) (hR : RETv X Y ad 50 SM cX12_instruct (FX12_instruct_204  x1 x2 x6 x7 h)) : FJ X Y ad 50 SM h 204 [(0, .ref (ad 0)), (1, .int x1), (2, .int x2), (6, .int x6), (7, .int x7)] [] := by
  unfold PX12_instruct_204 at hP
  unfold FX12_instruct_204 at hR
  refine j_aload_n C dX12_instruct_204 rfl rfl ?_
  refine gM_13 C dX12_instruct_205 ?_
  refine j_iload_n C dX12_instruct_208 rfl rfl ?_
  obtain ⟨p3, hP⟩ := hP
  refine j_iald (k := 2) (v := (h 2 (x2.toNatClampNeg))) C dX12_instruct_209 (by decide) rfl p3 rfl ?_
  refine j_bipush (v := 14) C dX12_instruct_210 (by decide) ?_
  refine j_icmp_eq (tgt := 254) C dX12_instruct_212 (by decide) (fun c0 => ?_) (fun c0 => ?_)
  · have hP := hP.1 c0
    rw [if_pos c0] at hR
    exact hR _ _ dX12_instruct_254
  · have hP := hP.2 c0
    rw [if_neg c0] at hR
    refine j_aload_n C dX12_instruct_215 rfl rfl ?_
    refine j_iload_n C dX12_instruct_216 rfl rfl ?_
    refine j_aload_n C dX12_instruct_217 rfl rfl ?_
    refine gM_13 C dX12_instruct_218 ?_
    refine j_iload_n C dX12_instruct_221 rfl rfl ?_
    obtain ⟨p5, hP⟩ := hP
    refine j_iald (k := 2) (v := (h 2 (x2.toNatClampNeg))) C dX12_instruct_222 (by decide) rfl p5 rfl ?_
    refine j_bipush (v := 19) C dX12_instruct_223 (by decide) ?_
    refine j_icmp_ne (tgt := 233) C dX12_instruct_225 (by decide) (fun c1 => ?_) (fun c1 => ?_)
    · have hP := hP.2 c1
      rw [if_neg c1] at hR
      refine j_iload C dX12_instruct_233 rfl ?_
      refine j_if_eq (tgt := 243) C dX12_instruct_235 (by decide) (fun c2 => ?_) (fun c2 => ?_)
      · have hP := hP.1 c2
        rw [if_pos c2] at hR
        refine j_aload_n C dX12_instruct_243 rfl rfl ?_
        refine gM_43 C dX12_instruct_244 ?_
        refine j_iload_n C dX12_instruct_247 rfl rfl ?_
        obtain ⟨p3, hP⟩ := hP
        refine j_iald (k := 12) (v := (h 12 (x1.toNatClampNeg))) C dX12_instruct_248 (by decide) rfl p3 rfl ?_
        refine j_iconst (v := 1) C dX12_instruct_249 (by decide) ?_
        refine j_iadd C dX12_instruct_250 ?_
        exact j_vl (tX12_instruct_251 C  ((h 12 (x1.toNatClampNeg)) + 1) x1 h hP hR) trivial
      · have hP := hP.2 c2
        rw [if_neg c2] at hR
        refine j_iload C dX12_instruct_238 rfl ?_
        refine j_goto (tgt := 251) C dX12_instruct_240 (by decide) ?_
        exact j_vl (tX12_instruct_251 C  x7 x1 h hP hR) trivial
    · have hP := hP.1 c1
      rw [if_pos c1] at hR
      refine j_bipush (v := 24) C dX12_instruct_228 (by decide) ?_
      refine j_goto (tgt := 251) C dX12_instruct_230 (by decide) ?_
      exact j_vl (tX12_instruct_251 C  24 x1 h hP hR) trivial
def FX12_instruct_195  (x1 : Int32) (x2 : Int32) (x3 : Int32) (x4 : Int32) (x6 : Int32) (x7 : Int32) (h : ph_H) : ph_H := FX12_instruct_204  x1 x2 x6 x7 (FX12_workPlain x1 x2 x3 x4 h)
def PX12_instruct_195  (x1 : Int32) (x2 : Int32) (x3 : Int32) (x4 : Int32) (x6 : Int32) (x7 : Int32) (h : ph_H) : Prop := (PX12_workPlain x1 x2 x3 x4 h) ∧ (PX12_instruct_204  x1 x2 x6 x7 (FX12_workPlain x1 x2 x3 x4 h))
set_option maxRecDepth 100000 in
set_option maxHeartbeats 4000000 in
theorem tX12_instruct_195 {X : fj_X} {Y : fj_Y} {l0 : Launch} {ad : Nat → Nat} (C : FC X Y l0 cX12_instruct 8 RX12 ({ frames := 2, cells := 0, slots := 0, locals := 51 } : Room) 0 0 none) (x1 : Int32) (x2 : Int32) (x3 : Int32) (x4 : Int32) (x6 : Int32) (x7 : Int32) (h : ph_H) (hP : PX12_instruct_195  x1 x2 x3 x4 x6 x7 h) (hR : RETv X Y ad 50 SM cX12_instruct (FX12_instruct_195  x1 x2 x3 x4 x6 x7 h)) : FJ X Y ad 50 SM h 195 [(0, .ref (ad 0)), (1, .int x1), (2, .int x2), (3, .int x3), (4, .int x4), (6, .int x6), (7, .int x7)] [] := by
  unfold PX12_instruct_195 at hP
  unfold FX12_instruct_195 at hR
  refine j_aload_n C dX12_instruct_195 rfl rfl ?_
  refine j_iload_n C dX12_instruct_196 rfl rfl ?_
  refine j_iload_n C dX12_instruct_197 rfl rfl ?_
  refine j_iload_n C dX12_instruct_198 rfl rfl ?_
  refine j_iload C dX12_instruct_199 rfl ?_
  obtain ⟨p5, hP⟩ := hP
  refine j_callVv C (MX12_workPlain x1 x2 x3 x4 h p5) dX12_instruct_201 (CKX12_workPlain (by decide)) ⟨rfl, rfl⟩ lk_RX12_264 in_X12_workPlain se_X12_workPlain (by decide) rfl rfl rfl (Nat.le_of_ble_eq_true rfl) ?_
  intro S' h' hq
  obtain ⟨rfl, rfl⟩ := hq
  exact j_vl (tX12_instruct_204 C  x1 x2 x6 x7 (FX12_workPlain x1 x2 x3 x4 h) hP hR) ⟨rfl, rfl, rfl, rfl, rfl, trivial⟩
def FX12_instruct_177  (x1 : Int32) (x2 : Int32) (x3 : Int32) (x4 : Int32) (x5 : Int32) (x6 : Int32) (s0 : Int32) (h : ph_H) : ph_H := FX12_instruct_195  x1 x2 x3 x4 x6 s0 (FX12_work x1 (h 2 (x2.toNatClampNeg)) x3 x4 x5 h)
def PX12_instruct_177  (x1 : Int32) (x2 : Int32) (x3 : Int32) (x4 : Int32) (x5 : Int32) (x6 : Int32) (s0 : Int32) (h : ph_H) : Prop := vp_in x2 96 ∧ ((PX12_work x1 (h 2 (x2.toNatClampNeg)) x3 x4 x5 h) ∧ (PX12_instruct_195  x1 x2 x3 x4 x6 s0 (FX12_work x1 (h 2 (x2.toNatClampNeg)) x3 x4 x5 h)))
set_option maxRecDepth 100000 in
set_option maxHeartbeats 4000000 in
theorem tX12_instruct_177 {X : fj_X} {Y : fj_Y} {l0 : Launch} {ad : Nat → Nat} (C : FC X Y l0 cX12_instruct 8 RX12 ({ frames := 2, cells := 0, slots := 0, locals := 51 } : Room) 0 0 none) (x1 : Int32) (x2 : Int32) (x3 : Int32) (x4 : Int32) (x5 : Int32) (x6 : Int32) (s0 : Int32) (h : ph_H) (hP : PX12_instruct_177  x1 x2 x3 x4 x5 x6 s0 h) (hR : RETv X Y ad 50 SM cX12_instruct (FX12_instruct_177  x1 x2 x3 x4 x5 x6 s0 h)) : FJ X Y ad 50 SM h 177 [(0, .ref (ad 0)), (1, .int x1), (2, .int x2), (3, .int x3), (4, .int x4), (5, .int x5), (6, .int x6)] [.int s0] := by
  unfold PX12_instruct_177 at hP
  unfold FX12_instruct_177 at hR
  refine j_istore C dX12_instruct_177 (by decide) rfl ?_
  refine j_aload_n C dX12_instruct_179 rfl rfl ?_
  refine j_iload_n C dX12_instruct_180 rfl rfl ?_
  refine j_aload_n C dX12_instruct_181 rfl rfl ?_
  refine gM_13 C dX12_instruct_182 ?_
  refine j_iload_n C dX12_instruct_185 rfl rfl ?_
  obtain ⟨p6, hP⟩ := hP
  refine j_iald (k := 2) (v := (h 2 (x2.toNatClampNeg))) C dX12_instruct_186 (by decide) rfl p6 rfl ?_
  refine j_iload_n C dX12_instruct_187 rfl rfl ?_
  refine j_iload C dX12_instruct_188 rfl ?_
  refine j_iload C dX12_instruct_190 rfl ?_
  obtain ⟨p11, hP⟩ := hP
  refine j_callVv C (MX12_work x1 (h 2 (x2.toNatClampNeg)) x3 x4 x5 h p11) dX12_instruct_192 (CKX12_work (by decide)) ⟨rfl, rfl⟩ lk_RX12_260 in_X12_work se_X12_work (by decide) rfl rfl rfl (Nat.le_of_ble_eq_true rfl) ?_
  intro S' h' hq
  obtain ⟨rfl, rfl⟩ := hq
  exact j_vl (tX12_instruct_195 C  x1 x2 x3 x4 x6 s0 (FX12_work x1 (h 2 (x2.toNatClampNeg)) x3 x4 x5 h) hP hR) ⟨rfl, rfl, rfl, rfl, rfl, rfl, rfl, trivial⟩
def FX12_instruct_149  (x1 : Int32) (x2 : Int32) (x3 : Int32) (x4 : Int32) (x5 : Int32) (s0 : Int32) (h : ph_H) : ph_H := if (h 2 (x2.toNatClampNeg)) = 6 then (FX12_instruct_177  x1 x2 x3 x4 x5 s0 (h 3 (x2.toNatClampNeg)) h) else (FX12_instruct_177  x1 x2 x3 x4 x5 s0 (h 4 (x2.toNatClampNeg)) h)
def PX12_instruct_149  (x1 : Int32) (x2 : Int32) (x3 : Int32) (x4 : Int32) (x5 : Int32) (s0 : Int32) (h : ph_H) : Prop := vp_in x2 96 ∧ (((h 2 (x2.toNatClampNeg)) = 6 → (vp_in x2 96 ∧ (PX12_instruct_177  x1 x2 x3 x4 x5 s0 (h 3 (x2.toNatClampNeg)) h))) ∧ (¬ (h 2 (x2.toNatClampNeg)) = 6 → (vp_in x2 96 ∧ (PX12_instruct_177  x1 x2 x3 x4 x5 s0 (h 4 (x2.toNatClampNeg)) h))))
set_option maxRecDepth 100000 in
set_option maxHeartbeats 4000000 in
theorem tX12_instruct_149 {X : fj_X} {Y : fj_Y} {l0 : Launch} {ad : Nat → Nat} (C : FC X Y l0 cX12_instruct 8 RX12 ({ frames := 2, cells := 0, slots := 0, locals := 51 } : Room) 0 0 none) (x1 : Int32) (x2 : Int32) (x3 : Int32) (x4 : Int32) (x5 : Int32) (s0 : Int32) (h : ph_H) (hP : PX12_instruct_149  x1 x2 x3 x4 x5 s0 h) (hR : RETv X Y ad 50 SM cX12_instruct (FX12_instruct_149  x1 x2 x3 x4 x5 s0 h)) : FJ X Y ad 50 SM h 149 [(0, .ref (ad 0)), (1, .int x1), (2, .int x2), (3, .int x3), (4, .int x4), (5, .int x5)] [.int s0] := by
  unfold PX12_instruct_149 at hP
  unfold FX12_instruct_149 at hR
  refine j_istore C dX12_instruct_149 (by decide) rfl ?_
  refine j_aload_n C dX12_instruct_151 rfl rfl ?_
  refine gM_13 C dX12_instruct_152 ?_
  refine j_iload_n C dX12_instruct_155 rfl rfl ?_
  obtain ⟨p4, hP⟩ := hP
  refine j_iald (k := 2) (v := (h 2 (x2.toNatClampNeg))) C dX12_instruct_156 (by decide) rfl p4 rfl ?_
  refine j_bipush (v := 6) C dX12_instruct_157 (by decide) ?_
  refine j_icmp_ne (tgt := 171) C dX12_instruct_159 (by decide) (fun c0 => ?_) (fun c0 => ?_)
  · have hP := hP.2 c0
    rw [if_neg c0] at hR
    refine j_aload_n C dX12_instruct_171 rfl rfl ?_
    refine gM_19 C dX12_instruct_172 ?_
    refine j_iload_n C dX12_instruct_175 rfl rfl ?_
    obtain ⟨p3, hP⟩ := hP
    refine j_iald (k := 4) (v := (h 4 (x2.toNatClampNeg))) C dX12_instruct_176 (by decide) rfl p3 rfl ?_
    exact j_vl (tX12_instruct_177 C  x1 x2 x3 x4 x5 s0 (h 4 (x2.toNatClampNeg)) h hP hR) ⟨rfl, rfl, rfl, rfl, rfl, rfl, rfl, trivial⟩
  · have hP := hP.1 c0
    rw [if_pos c0] at hR
    refine j_aload_n C dX12_instruct_162 rfl rfl ?_
    refine gM_16 C dX12_instruct_163 ?_
    refine j_iload_n C dX12_instruct_166 rfl rfl ?_
    obtain ⟨p3, hP⟩ := hP
    refine j_iald (k := 3) (v := (h 3 (x2.toNatClampNeg))) C dX12_instruct_167 (by decide) rfl p3 rfl ?_
    refine j_goto (tgt := 177) C dX12_instruct_168 (by decide) ?_
    exact j_vl (tX12_instruct_177 C  x1 x2 x3 x4 x5 s0 (h 3 (x2.toNatClampNeg)) h hP hR) ⟨rfl, rfl, rfl, rfl, rfl, rfl, rfl, trivial⟩
def FX12_instruct_144  (x1 : Int32) (x2 : Int32) (x3 : Int32) (x4 : Int32) (x5 : Int32) (h : ph_H) : ph_H := FX12_instruct_149  x1 x2 x3 x4 x5 1 h
def PX12_instruct_144  (x1 : Int32) (x2 : Int32) (x3 : Int32) (x4 : Int32) (x5 : Int32) (h : ph_H) : Prop := PX12_instruct_149  x1 x2 x3 x4 x5 1 h
set_option maxRecDepth 100000 in
set_option maxHeartbeats 4000000 in
theorem tX12_instruct_144 {X : fj_X} {Y : fj_Y} {l0 : Launch} {ad : Nat → Nat} (C : FC X Y l0 cX12_instruct 8 RX12 ({ frames := 2, cells := 0, slots := 0, locals := 51 } : Room) 0 0 none) (x1 : Int32) (x2 : Int32) (x3 : Int32) (x4 : Int32) (x5 : Int32) (h : ph_H) (hP : PX12_instruct_144  x1 x2 x3 x4 x5 h) (hR : RETv X Y ad 50 SM cX12_instruct (FX12_instruct_144  x1 x2 x3 x4 x5 h)) : FJ X Y ad 50 SM h 144 [(0, .ref (ad 0)), (1, .int x1), (2, .int x2), (3, .int x3), (4, .int x4), (5, .int x5)] [] := by
  unfold PX12_instruct_144 at hP
  unfold FX12_instruct_144 at hR
  refine j_iconst (v := 1) C dX12_instruct_144 (by decide) ?_
  refine j_goto (tgt := 149) C dX12_instruct_145 (by decide) ?_
  exact j_vl (tX12_instruct_149 C  x1 x2 x3 x4 x5 1 h hP hR) ⟨rfl, rfl, rfl, rfl, rfl, rfl, trivial⟩
def FX12_instruct_148  (x1 : Int32) (x2 : Int32) (x3 : Int32) (x4 : Int32) (x5 : Int32) (h : ph_H) : ph_H := FX12_instruct_149  x1 x2 x3 x4 x5 0 h
def PX12_instruct_148  (x1 : Int32) (x2 : Int32) (x3 : Int32) (x4 : Int32) (x5 : Int32) (h : ph_H) : Prop := PX12_instruct_149  x1 x2 x3 x4 x5 0 h
set_option maxRecDepth 100000 in
set_option maxHeartbeats 4000000 in
theorem tX12_instruct_148 {X : fj_X} {Y : fj_Y} {l0 : Launch} {ad : Nat → Nat} (C : FC X Y l0 cX12_instruct 8 RX12 ({ frames := 2, cells := 0, slots := 0, locals := 51 } : Room) 0 0 none) (x1 : Int32) (x2 : Int32) (x3 : Int32) (x4 : Int32) (x5 : Int32) (h : ph_H) (hP : PX12_instruct_148  x1 x2 x3 x4 x5 h) (hR : RETv X Y ad 50 SM cX12_instruct (FX12_instruct_148  x1 x2 x3 x4 x5 h)) : FJ X Y ad 50 SM h 148 [(0, .ref (ad 0)), (1, .int x1), (2, .int x2), (3, .int x3), (4, .int x4), (5, .int x5)] [] := by
  unfold PX12_instruct_148 at hP
  unfold FX12_instruct_148 at hR
  refine j_iconst (v := 0) C dX12_instruct_148 (by decide) ?_
  exact j_vl (tX12_instruct_149 C  x1 x2 x3 x4 x5 0 h hP hR) ⟨rfl, rfl, rfl, rfl, rfl, rfl, trivial⟩
def FX12_instruct_102  (x1 : Int32) (x2 : Int32) (x3 : Int32) (x4 : Int32) (x5 : Int32) (s0 : Int32) (h : ph_H) : ph_H := if s0 ≤ 0 then (if (h 2 (x2.toNatClampNeg)) = 6 then (FX12_instruct_144  x1 x2 x3 x4 x5 (hs h 0 25 s0)) else (if (h 2 (x2.toNatClampNeg)) = 7 then (if (h 11 (x3.toNatClampNeg)) = 0 then (FX12_instruct_144  x1 x2 x3 x4 x5 (hs h 0 25 s0)) else (FX12_instruct_148  x1 x2 x3 x4 x5 (hs h 0 25 s0))) else (FX12_instruct_148  x1 x2 x3 x4 x5 (hs h 0 25 s0)))) else ((hs h 0 25 s0))
def PX12_instruct_102  (x1 : Int32) (x2 : Int32) (x3 : Int32) (x4 : Int32) (x5 : Int32) (s0 : Int32) (h : ph_H) : Prop := (s0 ≤ 0 → (vp_in x2 96 ∧ (((h 2 (x2.toNatClampNeg)) = 6 → (PX12_instruct_144  x1 x2 x3 x4 x5 (hs h 0 25 s0))) ∧ (¬ (h 2 (x2.toNatClampNeg)) = 6 → (vp_in x2 96 ∧ (((h 2 (x2.toNatClampNeg)) = 7 → (vp_in x3 28 ∧ (((h 11 (x3.toNatClampNeg)) = 0 → (PX12_instruct_144  x1 x2 x3 x4 x5 (hs h 0 25 s0))) ∧ (¬ (h 11 (x3.toNatClampNeg)) = 0 → (PX12_instruct_148  x1 x2 x3 x4 x5 (hs h 0 25 s0)))))) ∧ (¬ (h 2 (x2.toNatClampNeg)) = 7 → (PX12_instruct_148  x1 x2 x3 x4 x5 (hs h 0 25 s0))))))))) ∧ (¬ s0 ≤ 0 → (True))
set_option maxRecDepth 100000 in
set_option maxHeartbeats 4000000 in
theorem tX12_instruct_102 {X : fj_X} {Y : fj_Y} {l0 : Launch} {ad : Nat → Nat} (C : FC X Y l0 cX12_instruct 8 RX12 ({ frames := 2, cells := 0, slots := 0, locals := 51 } : Room) 0 0 none) (x1 : Int32) (x2 : Int32) (x3 : Int32) (x4 : Int32) (x5 : Int32) (s0 : Int32) (h : ph_H) (hP : PX12_instruct_102  x1 x2 x3 x4 x5 s0 h) (hR : RETv X Y ad 50 SM cX12_instruct (FX12_instruct_102  x1 x2 x3 x4 x5 s0 h)) : FJ X Y ad 50 SM h 102 [(0, .ref (ad 0)), (1, .int x1), (2, .int x2), (3, .int x3), (4, .int x4), (5, .int x5)] [.int s0, .ref (ad 0)] := by
  unfold PX12_instruct_102 at hP
  unfold FX12_instruct_102 at hR
  refine pM_194 C dX12_instruct_102 ?_
  refine j_aload_n C dX12_instruct_105 rfl rfl ?_
  refine gM_194 (v := s0) C dX12_instruct_106 (hz_e) ?_
  refine j_if_le (tgt := 113) C dX12_instruct_109 (by decide) (fun c0 => ?_) (fun c0 => ?_)
  · have hP := hP.1 c0
    rw [if_pos c0] at hR
    refine j_aload_n C dX12_instruct_113 rfl rfl ?_
    refine gM_13 C dX12_instruct_114 ?_
    refine j_iload_n C dX12_instruct_117 rfl rfl ?_
    obtain ⟨p3, hP⟩ := hP
    refine j_iald (k := 2) (v := (h 2 (x2.toNatClampNeg))) C dX12_instruct_118 (by decide) rfl p3 (hz_k (by decide)) ?_
    refine j_bipush (v := 6) C dX12_instruct_119 (by decide) ?_
    refine j_icmp_eq (tgt := 144) C dX12_instruct_121 (by decide) (fun c1 => ?_) (fun c1 => ?_)
    · have hP := hP.1 c1
      rw [if_pos c1] at hR
      exact j_vl (tX12_instruct_144 C  x1 x2 x3 x4 x5 (hs h 0 25 s0) hP hR) ⟨rfl, rfl, rfl, rfl, rfl, rfl, trivial⟩
    · have hP := hP.2 c1
      rw [if_neg c1] at hR
      refine j_aload_n C dX12_instruct_124 rfl rfl ?_
      refine gM_13 C dX12_instruct_125 ?_
      refine j_iload_n C dX12_instruct_128 rfl rfl ?_
      obtain ⟨p3, hP⟩ := hP
      refine j_iald (k := 2) (v := (h 2 (x2.toNatClampNeg))) C dX12_instruct_129 (by decide) rfl p3 (hz_k (by decide)) ?_
      refine j_bipush (v := 7) C dX12_instruct_130 (by decide) ?_
      refine j_icmp_ne (tgt := 148) C dX12_instruct_132 (by decide) (fun c2 => ?_) (fun c2 => ?_)
      · have hP := hP.2 c2
        rw [if_neg c2] at hR
        exact j_vl (tX12_instruct_148 C  x1 x2 x3 x4 x5 (hs h 0 25 s0) hP hR) ⟨rfl, rfl, rfl, rfl, rfl, rfl, trivial⟩
      · have hP := hP.1 c2
        rw [if_pos c2] at hR
        refine j_aload_n C dX12_instruct_135 rfl rfl ?_
        refine gM_40 C dX12_instruct_136 ?_
        refine j_iload_n C dX12_instruct_139 rfl rfl ?_
        obtain ⟨p3, hP⟩ := hP
        refine j_iald (k := 11) (v := (h 11 (x3.toNatClampNeg))) C dX12_instruct_140 (by decide) rfl p3 (hz_k (by decide)) ?_
        refine j_if_ne (tgt := 148) C dX12_instruct_141 (by decide) (fun c3 => ?_) (fun c3 => ?_)
        · have hP := hP.2 c3
          rw [if_neg c3] at hR
          exact j_vl (tX12_instruct_148 C  x1 x2 x3 x4 x5 (hs h 0 25 s0) hP hR) ⟨rfl, rfl, rfl, rfl, rfl, rfl, trivial⟩
        · have hP := hP.1 c3
          rw [if_pos c3] at hR
          exact j_vl (tX12_instruct_144 C  x1 x2 x3 x4 x5 (hs h 0 25 s0) hP hR) ⟨rfl, rfl, rfl, rfl, rfl, rfl, trivial⟩
  · have hP := hP.2 c0
    rw [if_neg c0] at hR
    exact hR _ _ dX12_instruct_112
def FX12_instruct_98  (x1 : Int32) (x2 : Int32) (x3 : Int32) (x4 : Int32) (x5 : Int32) (h : ph_H) : ph_H := FX12_instruct_102  x1 x2 x3 x4 x5 (h 0 25) h
def PX12_instruct_98  (x1 : Int32) (x2 : Int32) (x3 : Int32) (x4 : Int32) (x5 : Int32) (h : ph_H) : Prop := PX12_instruct_102  x1 x2 x3 x4 x5 (h 0 25) h
set_option maxRecDepth 100000 in
set_option maxHeartbeats 4000000 in
theorem tX12_instruct_98 {X : fj_X} {Y : fj_Y} {l0 : Launch} {ad : Nat → Nat} (C : FC X Y l0 cX12_instruct 8 RX12 ({ frames := 2, cells := 0, slots := 0, locals := 51 } : Room) 0 0 none) (x1 : Int32) (x2 : Int32) (x3 : Int32) (x4 : Int32) (x5 : Int32) (h : ph_H) (hP : PX12_instruct_98  x1 x2 x3 x4 x5 h) (hR : RETv X Y ad 50 SM cX12_instruct (FX12_instruct_98  x1 x2 x3 x4 x5 h)) : FJ X Y ad 50 SM h 98 [(0, .ref (ad 0)), (1, .int x1), (2, .int x2), (3, .int x3), (4, .int x4), (5, .int x5)] [.ref (ad 0)] := by
  unfold PX12_instruct_98 at hP
  unfold FX12_instruct_98 at hR
  refine j_aload_n C dX12_instruct_98 rfl rfl ?_
  refine gM_194 (v := (h 0 25)) C dX12_instruct_99 rfl ?_
  exact j_vl (tX12_instruct_102 C  x1 x2 x3 x4 x5 (h 0 25) h hP hR) ⟨rfl, rfl, rfl, rfl, rfl, rfl, trivial⟩
def FX12_instruct (a0 : Int32) (a1 : Int32) (h : ph_H) : ph_H := if (h 2 (a1.toNatClampNeg)) = 17 then (if (h 13 ((FX12_modulo (h 3 (a1.toNatClampNeg)) 4).toNatClampNeg)) = 0 then (FX12_instruct_98  a0 a1 (FX12_local a0 (h 3 (a1.toNatClampNeg)) h) (FX12_local a0 (h 4 (a1.toNatClampNeg)) h) (FX12_local a0 (h 5 (a1.toNatClampNeg)) h) (hs h 0 25 (FX12_why a0 (h 2 (a1.toNatClampNeg)) (FX12_local a0 (h 3 (a1.toNatClampNeg)) h) (FX12_local a0 (h 4 (a1.toNatClampNeg)) h) (FX12_local a0 (h 5 (a1.toNatClampNeg)) h) (h 4 (a1.toNatClampNeg)) h))) else (FX12_instruct_102  a0 a1 (FX12_local a0 (h 3 (a1.toNatClampNeg)) h) (FX12_local a0 (h 4 (a1.toNatClampNeg)) h) (FX12_local a0 (h 5 (a1.toNatClampNeg)) h) 5 (hs h 0 25 (FX12_why a0 (h 2 (a1.toNatClampNeg)) (FX12_local a0 (h 3 (a1.toNatClampNeg)) h) (FX12_local a0 (h 4 (a1.toNatClampNeg)) h) (FX12_local a0 (h 5 (a1.toNatClampNeg)) h) (h 4 (a1.toNatClampNeg)) h)))) else (FX12_instruct_98  a0 a1 (FX12_local a0 (h 3 (a1.toNatClampNeg)) h) (FX12_local a0 (h 4 (a1.toNatClampNeg)) h) (FX12_local a0 (h 5 (a1.toNatClampNeg)) h) (hs h 0 25 (FX12_why a0 (h 2 (a1.toNatClampNeg)) (FX12_local a0 (h 3 (a1.toNatClampNeg)) h) (FX12_local a0 (h 4 (a1.toNatClampNeg)) h) (FX12_local a0 (h 5 (a1.toNatClampNeg)) h) (h 4 (a1.toNatClampNeg)) h)))
def PX12_instruct (a0 : Int32) (a1 : Int32) (h : ph_H) : Prop := vp_in a1 96 ∧ ((PX12_local a0 (h 3 (a1.toNatClampNeg)) h) ∧ (vp_in a1 96 ∧ ((PX12_local a0 (h 4 (a1.toNatClampNeg)) h) ∧ (vp_in a1 96 ∧ ((PX12_local a0 (h 5 (a1.toNatClampNeg)) h) ∧ (vp_in a1 96 ∧ (vp_in a1 96 ∧ ((PX12_why a0 (h 2 (a1.toNatClampNeg)) (FX12_local a0 (h 3 (a1.toNatClampNeg)) h) (FX12_local a0 (h 4 (a1.toNatClampNeg)) h) (FX12_local a0 (h 5 (a1.toNatClampNeg)) h) (h 4 (a1.toNatClampNeg)) h) ∧ (vp_in a1 96 ∧ (((h 2 (a1.toNatClampNeg)) = 17 → (vp_in a1 96 ∧ ((PX12_modulo (h 3 (a1.toNatClampNeg)) 4) ∧ (vp_in (FX12_modulo (h 3 (a1.toNatClampNeg)) 4) 4 ∧ (((h 13 ((FX12_modulo (h 3 (a1.toNatClampNeg)) 4).toNatClampNeg)) = 0 → (PX12_instruct_98  a0 a1 (FX12_local a0 (h 3 (a1.toNatClampNeg)) h) (FX12_local a0 (h 4 (a1.toNatClampNeg)) h) (FX12_local a0 (h 5 (a1.toNatClampNeg)) h) (hs h 0 25 (FX12_why a0 (h 2 (a1.toNatClampNeg)) (FX12_local a0 (h 3 (a1.toNatClampNeg)) h) (FX12_local a0 (h 4 (a1.toNatClampNeg)) h) (FX12_local a0 (h 5 (a1.toNatClampNeg)) h) (h 4 (a1.toNatClampNeg)) h)))) ∧ (¬ (h 13 ((FX12_modulo (h 3 (a1.toNatClampNeg)) 4).toNatClampNeg)) = 0 → (PX12_instruct_102  a0 a1 (FX12_local a0 (h 3 (a1.toNatClampNeg)) h) (FX12_local a0 (h 4 (a1.toNatClampNeg)) h) (FX12_local a0 (h 5 (a1.toNatClampNeg)) h) 5 (hs h 0 25 (FX12_why a0 (h 2 (a1.toNatClampNeg)) (FX12_local a0 (h 3 (a1.toNatClampNeg)) h) (FX12_local a0 (h 4 (a1.toNatClampNeg)) h) (FX12_local a0 (h 5 (a1.toNatClampNeg)) h) (h 4 (a1.toNatClampNeg)) h))))))))) ∧ (¬ (h 2 (a1.toNatClampNeg)) = 17 → (PX12_instruct_98  a0 a1 (FX12_local a0 (h 3 (a1.toNatClampNeg)) h) (FX12_local a0 (h 4 (a1.toNatClampNeg)) h) (FX12_local a0 (h 5 (a1.toNatClampNeg)) h) (hs h 0 25 (FX12_why a0 (h 2 (a1.toNatClampNeg)) (FX12_local a0 (h 3 (a1.toNatClampNeg)) h) (FX12_local a0 (h 4 (a1.toNatClampNeg)) h) (FX12_local a0 (h 5 (a1.toNatClampNeg)) h) (h 4 (a1.toNatClampNeg)) h))))))))))))))
set_option maxRecDepth 100000 in
set_option maxHeartbeats 4000000 in
theorem tX12_instruct {X : fj_X} {Y : fj_Y} {l0 : Launch} {ad : Nat → Nat} (C : FC X Y l0 cX12_instruct 8 RX12 ({ frames := 2, cells := 0, slots := 0, locals := 51 } : Room) 0 0 none) (a0 : Int32) (a1 : Int32) (h : ph_H) (hP : PX12_instruct a0 a1 h) (hR : RETv X Y ad 50 SM cX12_instruct (FX12_instruct a0 a1 h)) : FJ X Y ad 50 SM h 0 [(0, .ref (ad 0)), (1, .int a0), (2, .int a1)] [] := by
  unfold PX12_instruct at hP
  unfold FX12_instruct at hR
  refine j_aload_n C dX12_instruct_0 rfl rfl ?_
  refine j_iload_n C dX12_instruct_1 rfl rfl ?_
  refine j_aload_n C dX12_instruct_2 rfl rfl ?_
  refine gM_16 C dX12_instruct_3 ?_
  refine j_iload_n C dX12_instruct_6 rfl rfl ?_
  obtain ⟨p5, hP⟩ := hP
  refine j_iald (k := 3) (v := (h 3 (a1.toNatClampNeg))) C dX12_instruct_7 (by decide) rfl p5 rfl ?_
  obtain ⟨p7, hP⟩ := hP
  refine j_callV C (MX12_local a0 (h 3 (a1.toNatClampNeg)) h p7) dX12_instruct_8 (CKX12_local (by decide)) ⟨rfl, rfl⟩ lk_RX12_208 in_X12_local se_X12_local (by decide) rfl rfl rfl (Nat.le_of_ble_eq_true rfl) ?_
  intro r S' h' hq
  obtain ⟨rfl, hh, rfl⟩ := hq
  rw [hh]
  refine j_istore_n C dX12_instruct_11 rfl (by decide) rfl ?_
  refine j_aload_n C dX12_instruct_12 rfl rfl ?_
  refine j_iload_n C dX12_instruct_13 rfl rfl ?_
  refine j_aload_n C dX12_instruct_14 rfl rfl ?_
  refine gM_19 C dX12_instruct_15 ?_
  refine j_iload_n C dX12_instruct_18 rfl rfl ?_
  obtain ⟨p18, hP⟩ := hP
  refine j_iald (k := 4) (v := (h 4 (a1.toNatClampNeg))) C dX12_instruct_19 (by decide) rfl p18 rfl ?_
  obtain ⟨p20, hP⟩ := hP
  refine j_callV C (MX12_local a0 (h 4 (a1.toNatClampNeg)) h p20) dX12_instruct_20 (CKX12_local (by decide)) ⟨rfl, rfl⟩ lk_RX12_208 in_X12_local se_X12_local (by decide) rfl rfl rfl (Nat.le_of_ble_eq_true rfl) ?_
  intro r S' h' hq
  obtain ⟨rfl, hh, rfl⟩ := hq
  rw [hh]
  refine j_istore C dX12_instruct_23 (by decide) rfl ?_
  refine j_aload_n C dX12_instruct_25 rfl rfl ?_
  refine j_iload_n C dX12_instruct_26 rfl rfl ?_
  refine j_aload_n C dX12_instruct_27 rfl rfl ?_
  refine gM_22 C dX12_instruct_28 ?_
  refine j_iload_n C dX12_instruct_31 rfl rfl ?_
  obtain ⟨p31, hP⟩ := hP
  refine j_iald (k := 5) (v := (h 5 (a1.toNatClampNeg))) C dX12_instruct_32 (by decide) rfl p31 rfl ?_
  obtain ⟨p33, hP⟩ := hP
  refine j_callV C (MX12_local a0 (h 5 (a1.toNatClampNeg)) h p33) dX12_instruct_33 (CKX12_local (by decide)) ⟨rfl, rfl⟩ lk_RX12_208 in_X12_local se_X12_local (by decide) rfl rfl rfl (Nat.le_of_ble_eq_true rfl) ?_
  intro r S' h' hq
  obtain ⟨rfl, hh, rfl⟩ := hq
  rw [hh]
  refine j_istore C dX12_instruct_36 (by decide) rfl ?_
  refine j_aload_n C dX12_instruct_38 rfl rfl ?_
  refine j_aload_n C dX12_instruct_39 rfl rfl ?_
  refine j_iload_n C dX12_instruct_40 rfl rfl ?_
  refine j_aload_n C dX12_instruct_41 rfl rfl ?_
  refine gM_13 C dX12_instruct_42 ?_
  refine j_iload_n C dX12_instruct_45 rfl rfl ?_
  obtain ⟨p45, hP⟩ := hP
  refine j_iald (k := 2) (v := (h 2 (a1.toNatClampNeg))) C dX12_instruct_46 (by decide) rfl p45 rfl ?_
  refine j_iload_n C dX12_instruct_47 rfl rfl ?_
  refine j_iload C dX12_instruct_48 rfl ?_
  refine j_iload C dX12_instruct_50 rfl ?_
  refine j_aload_n C dX12_instruct_52 rfl rfl ?_
  refine gM_19 C dX12_instruct_53 ?_
  refine j_iload_n C dX12_instruct_56 rfl rfl ?_
  obtain ⟨p53, hP⟩ := hP
  refine j_iald (k := 4) (v := (h 4 (a1.toNatClampNeg))) C dX12_instruct_57 (by decide) rfl p53 rfl ?_
  obtain ⟨p55, hP⟩ := hP
  refine j_callV C (MX12_why a0 (h 2 (a1.toNatClampNeg)) (FX12_local a0 (h 3 (a1.toNatClampNeg)) h) (FX12_local a0 (h 4 (a1.toNatClampNeg)) h) (FX12_local a0 (h 5 (a1.toNatClampNeg)) h) (h 4 (a1.toNatClampNeg)) h p55) dX12_instruct_58 (CKX12_why (by decide)) ⟨rfl, rfl⟩ lk_RX12_256 in_X12_why se_X12_why (by decide) rfl rfl rfl (Nat.le_of_ble_eq_true rfl) ?_
  intro r S' h' hq
  obtain ⟨rfl, hh, rfl⟩ := hq
  rw [hh]
  refine pM_194 C dX12_instruct_61 ?_
  refine j_aload_n C dX12_instruct_64 rfl rfl ?_
  refine j_aload_n C dX12_instruct_65 rfl rfl ?_
  refine gM_13 C dX12_instruct_66 ?_
  refine j_iload_n C dX12_instruct_69 rfl rfl ?_
  obtain ⟨p65, hP⟩ := hP
  refine j_iald (k := 2) (v := (h 2 (a1.toNatClampNeg))) C dX12_instruct_70 (by decide) rfl p65 (hz_k (by decide)) ?_
  refine j_bipush (v := 17) C dX12_instruct_71 (by decide) ?_
  refine j_icmp_ne (tgt := 98) C dX12_instruct_73 (by decide) (fun c0 => ?_) (fun c0 => ?_)
  · have hP := hP.2 c0
    rw [if_neg c0] at hR
    exact j_vl (tX12_instruct_98 C  a0 a1 (FX12_local a0 (h 3 (a1.toNatClampNeg)) h) (FX12_local a0 (h 4 (a1.toNatClampNeg)) h) (FX12_local a0 (h 5 (a1.toNatClampNeg)) h) (hs h 0 25 (FX12_why a0 (h 2 (a1.toNatClampNeg)) (FX12_local a0 (h 3 (a1.toNatClampNeg)) h) (FX12_local a0 (h 4 (a1.toNatClampNeg)) h) (FX12_local a0 (h 5 (a1.toNatClampNeg)) h) (h 4 (a1.toNatClampNeg)) h)) hP hR) ⟨rfl, rfl, rfl, rfl, rfl, rfl, trivial⟩
  · have hP := hP.1 c0
    rw [if_pos c0] at hR
    refine j_aload_n C dX12_instruct_76 rfl rfl ?_
    refine gM_46 C dX12_instruct_77 ?_
    refine j_aload_n C dX12_instruct_80 rfl rfl ?_
    refine gM_16 C dX12_instruct_81 ?_
    refine j_iload_n C dX12_instruct_84 rfl rfl ?_
    obtain ⟨p5, hP⟩ := hP
    refine j_iald (k := 3) (v := (h 3 (a1.toNatClampNeg))) C dX12_instruct_85 (by decide) rfl p5 (hz_k (by decide)) ?_
    refine j_iconst (v := 4) C dX12_instruct_86 (by decide) ?_
    obtain ⟨p8, hP⟩ := hP
    refine j_callS C (MX12_modulo (h 3 (a1.toNatClampNeg)) 4 (hs h 0 25 (FX12_why a0 (h 2 (a1.toNatClampNeg)) (FX12_local a0 (h 3 (a1.toNatClampNeg)) h) (FX12_local a0 (h 4 (a1.toNatClampNeg)) h) (FX12_local a0 (h 5 (a1.toNatClampNeg)) h) (h 4 (a1.toNatClampNeg)) h)) p8) dX12_instruct_87 (CKX12_modulo (by decide)) ⟨rfl, rfl⟩ lk_RX12_204 st_X12_modulo rfl (Nat.le_of_ble_eq_true rfl) ?_
    intro r S' h' hq
    obtain ⟨rfl, hh, rfl⟩ := hq
    rw [hh]
    obtain ⟨p13, hP⟩ := hP
    refine j_zald (k := 13) (v := (h 13 ((FX12_modulo (h 3 (a1.toNatClampNeg)) 4).toNatClampNeg))) C dX12_instruct_90 (by decide) rfl p13 (hz_k (by decide)) ?_
    refine j_if_eq (tgt := 98) C dX12_instruct_91 (by decide) (fun c1 => ?_) (fun c1 => ?_)
    · have hP := hP.1 c1
      rw [if_pos c1] at hR
      exact j_vl (tX12_instruct_98 C  a0 a1 (FX12_local a0 (h 3 (a1.toNatClampNeg)) h) (FX12_local a0 (h 4 (a1.toNatClampNeg)) h) (FX12_local a0 (h 5 (a1.toNatClampNeg)) h) (hs h 0 25 (FX12_why a0 (h 2 (a1.toNatClampNeg)) (FX12_local a0 (h 3 (a1.toNatClampNeg)) h) (FX12_local a0 (h 4 (a1.toNatClampNeg)) h) (FX12_local a0 (h 5 (a1.toNatClampNeg)) h) (h 4 (a1.toNatClampNeg)) h)) hP hR) ⟨rfl, rfl, rfl, rfl, rfl, rfl, trivial⟩
    · have hP := hP.2 c1
      rw [if_neg c1] at hR
      refine j_iconst (v := 5) C dX12_instruct_94 (by decide) ?_
      refine j_goto (tgt := 102) C dX12_instruct_95 (by decide) ?_
      exact j_vl (tX12_instruct_102 C  a0 a1 (FX12_local a0 (h 3 (a1.toNatClampNeg)) h) (FX12_local a0 (h 4 (a1.toNatClampNeg)) h) (FX12_local a0 (h 5 (a1.toNatClampNeg)) h) 5 (hs h 0 25 (FX12_why a0 (h 2 (a1.toNatClampNeg)) (FX12_local a0 (h 3 (a1.toNatClampNeg)) h) (FX12_local a0 (h 4 (a1.toNatClampNeg)) h) (FX12_local a0 (h 5 (a1.toNatClampNeg)) h) (h 4 (a1.toNatClampNeg)) h)) hP hR) ⟨rfl, rfl, rfl, rfl, rfl, rfl, trivial⟩
theorem MX12_instruct {l0 : Launch} {Y : fj_Y} {ad : Nat → Nat} (a0 : Int32) (a1 : Int32) (h : ph_H) (hP : PX12_instruct a0 a1 h) : MV l0 yX12_instruct cX12_instruct 8 ({ frames := 2, cells := 0, slots := 0, locals := 51 } : Room) Y ad 50 SM h [.ref (ad 0), .int a0, .int a1] (fun S' h' => S' = SM ∧ h' = FX12_instruct a0 a1 h) := met_v (by decide) (Nat.le_of_ble_eq_true rfl) (fun X C K => j_vl (tX12_instruct C a0 a1 h hP (fun pc lv hd => K _ _ ⟨rfl, rfl⟩ pc lv hd)) ⟨rfl, rfl, rfl, trivial⟩)
