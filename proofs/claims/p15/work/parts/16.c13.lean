-- X3_perform_oc2
def FX3_perform_oc2_288  (s0 : Int32) (s1 : Int32) (h : ph_H) : Int32 × ph_H := ((FX3_makeLock_oc2 s1 s0 h).1, (FX3_makeLock_oc2 s1 s0 h).2)
def PX3_perform_oc2_288  (s0 : Int32) (s1 : Int32) (h : ph_H) : Prop := (PX3_makeLock_oc2 s1 s0 h) ∧ (True)
set_option maxRecDepth 100000 in
set_option maxHeartbeats 4000000 in
theorem tX3_perform_oc2_288 {X : fj_X} {Y : fj_Y} {l0 : Launch} {ad : Nat → Nat} {n : Nat} {S : ph_S} (W : WS 8 n S) (C : FC X Y l0 cX3_perform 8 RX3 ({ frames := 2, cells := 0, slots := 0, locals := 49 } : Room) 0 0 (some .int)) (s0 : Int32) (s1 : Int32) (h : ph_H) (hP : PX3_perform_oc2_288  s0 s1 h) (hR : RETi X Y ad n S cX3_perform (FX3_perform_oc2_288  s0 s1 h)) : FJ X Y ad n S h 288 [] [.int s0, .int s1, .ref (ad 25)] := by
  unfold PX3_perform_oc2_288 at hP
  unfold FX3_perform_oc2_288 at hR
  obtain ⟨p0, hP⟩ := hP
  refine j_callV C (MX3_makeLock_oc2 W s1 s0 h p0) dX3_perform_288 (CKX3_makeLock (by decide)) ⟨rfl, rfl⟩ lk_RX3_168 in_X3_makeLock se_X3_makeLock (W.lt 25 (by decide)) (sh_25 W) rfl rfl (Nat.le_of_ble_eq_true rfl) ?_
  intro r S' h' hq
  obtain ⟨e1, e2, e3⟩ := hq
  rw [e1, e2, e3]
  exact RETi_u hR _ _ dX3_perform_291
def FX3_perform_oc2 (a0 : Int32) (h : ph_H) : Int32 × ph_H := if (h 10 ((FX5_firstPart_t a0 (h 28 (a0.toNatClampNeg)) h).toNatClampNeg)) = 0 then (((FX3_hold_oc2 (FX3_slotOf a0 (h 10 (((FX5_firstPart_t a0 (h 28 (a0.toNatClampNeg)) h) + 1).toNatClampNeg))) 0 (h 10 (((FX5_firstPart_t a0 (h 28 (a0.toNatClampNeg)) h) + 2).toNatClampNeg)) h).1, (FX3_hold_oc2 (FX3_slotOf a0 (h 10 (((FX5_firstPart_t a0 (h 28 (a0.toNatClampNeg)) h) + 1).toNatClampNeg))) 0 (h 10 (((FX5_firstPart_t a0 (h 28 (a0.toNatClampNeg)) h) + 2).toNatClampNeg)) h).2)) else (if (h 10 ((FX5_firstPart_t a0 (h 28 (a0.toNatClampNeg)) h).toNatClampNeg)) = 1 then (((FX3_getCell_oc2 (FX3_slotOf a0 (h 10 (((FX5_firstPart_t a0 (h 28 (a0.toNatClampNeg)) h) + 1).toNatClampNeg))) (FJ9_floorMod_7cf53 (h 10 (((FX5_firstPart_t a0 (h 28 (a0.toNatClampNeg)) h) + 2).toNatClampNeg)) 12) h).1, (FX3_getCell_oc2 (FX3_slotOf a0 (h 10 (((FX5_firstPart_t a0 (h 28 (a0.toNatClampNeg)) h) + 1).toNatClampNeg))) (FJ9_floorMod_7cf53 (h 10 (((FX5_firstPart_t a0 (h 28 (a0.toNatClampNeg)) h) + 2).toNatClampNeg)) 12) h).2)) else (if (h 10 ((FX5_firstPart_t a0 (h 28 (a0.toNatClampNeg)) h).toNatClampNeg)) = 2 then (((FX3_putCell_oc2 (FJ9_floorMod_7cf53 (h 10 (((FX5_firstPart_t a0 (h 28 (a0.toNatClampNeg)) h) + 1).toNatClampNeg)) 12) (FX3_slotOf a0 (h 10 (((FX5_firstPart_t a0 (h 28 (a0.toNatClampNeg)) h) + 2).toNatClampNeg))) h).1, (FX3_putCell_oc2 (FJ9_floorMod_7cf53 (h 10 (((FX5_firstPart_t a0 (h 28 (a0.toNatClampNeg)) h) + 1).toNatClampNeg)) 12) (FX3_slotOf a0 (h 10 (((FX5_firstPart_t a0 (h 28 (a0.toNatClampNeg)) h) + 2).toNatClampNeg))) h).2)) else (if (h 10 ((FX5_firstPart_t a0 (h 28 (a0.toNatClampNeg)) h).toNatClampNeg)) = 3 then (((FX3_reckon_oc2 (h 10 ((FX5_firstPart_t a0 (h 28 (a0.toNatClampNeg)) h).toNatClampNeg)) (FX3_slotOf a0 (h 10 (((FX5_firstPart_t a0 (h 28 (a0.toNatClampNeg)) h) + 1).toNatClampNeg))) (FX3_slotOf a0 (h 10 (((FX5_firstPart_t a0 (h 28 (a0.toNatClampNeg)) h) + 2).toNatClampNeg))) h).1, (FX3_reckon_oc2 (h 10 ((FX5_firstPart_t a0 (h 28 (a0.toNatClampNeg)) h).toNatClampNeg)) (FX3_slotOf a0 (h 10 (((FX5_firstPart_t a0 (h 28 (a0.toNatClampNeg)) h) + 1).toNatClampNeg))) (FX3_slotOf a0 (h 10 (((FX5_firstPart_t a0 (h 28 (a0.toNatClampNeg)) h) + 2).toNatClampNeg))) h).2)) else (if (h 10 ((FX5_firstPart_t a0 (h 28 (a0.toNatClampNeg)) h).toNatClampNeg)) = 4 then (((FX3_reckon_oc2 (h 10 ((FX5_firstPart_t a0 (h 28 (a0.toNatClampNeg)) h).toNatClampNeg)) (FX3_slotOf a0 (h 10 (((FX5_firstPart_t a0 (h 28 (a0.toNatClampNeg)) h) + 1).toNatClampNeg))) (FX3_slotOf a0 (h 10 (((FX5_firstPart_t a0 (h 28 (a0.toNatClampNeg)) h) + 2).toNatClampNeg))) h).1, (FX3_reckon_oc2 (h 10 ((FX5_firstPart_t a0 (h 28 (a0.toNatClampNeg)) h).toNatClampNeg)) (FX3_slotOf a0 (h 10 (((FX5_firstPart_t a0 (h 28 (a0.toNatClampNeg)) h) + 1).toNatClampNeg))) (FX3_slotOf a0 (h 10 (((FX5_firstPart_t a0 (h 28 (a0.toNatClampNeg)) h) + 2).toNatClampNeg))) h).2)) else (if (h 10 ((FX5_firstPart_t a0 (h 28 (a0.toNatClampNeg)) h).toNatClampNeg)) = 5 then (((FX3_reckon_oc2 (h 10 ((FX5_firstPart_t a0 (h 28 (a0.toNatClampNeg)) h).toNatClampNeg)) (FX3_slotOf a0 (h 10 (((FX5_firstPart_t a0 (h 28 (a0.toNatClampNeg)) h) + 1).toNatClampNeg))) (FX3_slotOf a0 (h 10 (((FX5_firstPart_t a0 (h 28 (a0.toNatClampNeg)) h) + 2).toNatClampNeg))) h).1, (FX3_reckon_oc2 (h 10 ((FX5_firstPart_t a0 (h 28 (a0.toNatClampNeg)) h).toNatClampNeg)) (FX3_slotOf a0 (h 10 (((FX5_firstPart_t a0 (h 28 (a0.toNatClampNeg)) h) + 1).toNatClampNeg))) (FX3_slotOf a0 (h 10 (((FX5_firstPart_t a0 (h 28 (a0.toNatClampNeg)) h) + 2).toNatClampNeg))) h).2)) else (if (h 10 ((FX5_firstPart_t a0 (h 28 (a0.toNatClampNeg)) h).toNatClampNeg)) = 6 then (((FX3_goTo_oc2 (h 10 (((FX5_firstPart_t a0 (h 28 (a0.toNatClampNeg)) h) + 1).toNatClampNeg)) h).1, (FX3_goTo_oc2 (h 10 (((FX5_firstPart_t a0 (h 28 (a0.toNatClampNeg)) h) + 1).toNatClampNeg)) h).2)) else (if (h 10 ((FX5_firstPart_t a0 (h 28 (a0.toNatClampNeg)) h).toNatClampNeg)) = 7 then (((FX3_goUnless_oc2 (FX3_slotOf a0 (h 10 (((FX5_firstPart_t a0 (h 28 (a0.toNatClampNeg)) h) + 1).toNatClampNeg))) (h 10 (((FX5_firstPart_t a0 (h 28 (a0.toNatClampNeg)) h) + 2).toNatClampNeg)) h).1, (FX3_goUnless_oc2 (FX3_slotOf a0 (h 10 (((FX5_firstPart_t a0 (h 28 (a0.toNatClampNeg)) h) + 1).toNatClampNeg))) (h 10 (((FX5_firstPart_t a0 (h 28 (a0.toNatClampNeg)) h) + 2).toNatClampNeg)) h).2)) else (if (h 10 ((FX5_firstPart_t a0 (h 28 (a0.toNatClampNeg)) h).toNatClampNeg)) = 8 then (((FX3_makeRow_oc2 (FX3_slotOf a0 (h 10 (((FX5_firstPart_t a0 (h 28 (a0.toNatClampNeg)) h) + 1).toNatClampNeg))) (FX3_slotOf a0 (h 10 (((FX5_firstPart_t a0 (h 28 (a0.toNatClampNeg)) h) + 2).toNatClampNeg))) h).1, (FX3_makeRow_oc2 (FX3_slotOf a0 (h 10 (((FX5_firstPart_t a0 (h 28 (a0.toNatClampNeg)) h) + 1).toNatClampNeg))) (FX3_slotOf a0 (h 10 (((FX5_firstPart_t a0 (h 28 (a0.toNatClampNeg)) h) + 2).toNatClampNeg))) h).2)) else (if (h 10 ((FX5_firstPart_t a0 (h 28 (a0.toNatClampNeg)) h).toNatClampNeg)) = 9 then (((FX3_readRow_oc2 (FX3_slotOf a0 (h 10 (((FX5_firstPart_t a0 (h 28 (a0.toNatClampNeg)) h) + 1).toNatClampNeg))) (FX3_slotOf a0 (h 10 (((FX5_firstPart_t a0 (h 28 (a0.toNatClampNeg)) h) + 2).toNatClampNeg))) (FX3_slotOf a0 (h 10 (((FX5_firstPart_t a0 (h 28 (a0.toNatClampNeg)) h) + 3).toNatClampNeg))) h).1, (FX3_readRow_oc2 (FX3_slotOf a0 (h 10 (((FX5_firstPart_t a0 (h 28 (a0.toNatClampNeg)) h) + 1).toNatClampNeg))) (FX3_slotOf a0 (h 10 (((FX5_firstPart_t a0 (h 28 (a0.toNatClampNeg)) h) + 2).toNatClampNeg))) (FX3_slotOf a0 (h 10 (((FX5_firstPart_t a0 (h 28 (a0.toNatClampNeg)) h) + 3).toNatClampNeg))) h).2)) else (if (h 10 ((FX5_firstPart_t a0 (h 28 (a0.toNatClampNeg)) h).toNatClampNeg)) = 10 then (((FX3_writeRow_oc2 (FX3_slotOf a0 (h 10 (((FX5_firstPart_t a0 (h 28 (a0.toNatClampNeg)) h) + 1).toNatClampNeg))) (FX3_slotOf a0 (h 10 (((FX5_firstPart_t a0 (h 28 (a0.toNatClampNeg)) h) + 2).toNatClampNeg))) (FX3_slotOf a0 (h 10 (((FX5_firstPart_t a0 (h 28 (a0.toNatClampNeg)) h) + 3).toNatClampNeg))) h).1, (FX3_writeRow_oc2 (FX3_slotOf a0 (h 10 (((FX5_firstPart_t a0 (h 28 (a0.toNatClampNeg)) h) + 1).toNatClampNeg))) (FX3_slotOf a0 (h 10 (((FX5_firstPart_t a0 (h 28 (a0.toNatClampNeg)) h) + 2).toNatClampNeg))) (FX3_slotOf a0 (h 10 (((FX5_firstPart_t a0 (h 28 (a0.toNatClampNeg)) h) + 3).toNatClampNeg))) h).2)) else (if (h 10 ((FX5_firstPart_t a0 (h 28 (a0.toNatClampNeg)) h).toNatClampNeg)) = 11 then (if ((h 10 (((FX5_firstPart_t a0 (h 28 (a0.toNatClampNeg)) h) + 2).toNatClampNeg)) &&& 1) = 0 then (FX3_perform_oc2_288  0 (FX3_slotOf a0 (h 10 (((FX5_firstPart_t a0 (h 28 (a0.toNatClampNeg)) h) + 1).toNatClampNeg))) h) else (FX3_perform_oc2_288  1 (FX3_slotOf a0 (h 10 (((FX5_firstPart_t a0 (h 28 (a0.toNatClampNeg)) h) + 1).toNatClampNeg))) h)) else (if (h 10 ((FX5_firstPart_t a0 (h 28 (a0.toNatClampNeg)) h).toNatClampNeg)) = 12 then (((FX3_takeLock_oc2 a0 (FX3_slotOf a0 (h 10 (((FX5_firstPart_t a0 (h 28 (a0.toNatClampNeg)) h) + 1).toNatClampNeg))) h).1, (FX3_takeLock_oc2 a0 (FX3_slotOf a0 (h 10 (((FX5_firstPart_t a0 (h 28 (a0.toNatClampNeg)) h) + 1).toNatClampNeg))) h).2)) else (if (h 10 ((FX5_firstPart_t a0 (h 28 (a0.toNatClampNeg)) h).toNatClampNeg)) = 13 then (((FX3_leaveLock_oc2 a0 (FX3_slotOf a0 (h 10 (((FX5_firstPart_t a0 (h 28 (a0.toNatClampNeg)) h) + 1).toNatClampNeg))) h).1, (FX3_leaveLock_oc2 a0 (FX3_slotOf a0 (h 10 (((FX5_firstPart_t a0 (h 28 (a0.toNatClampNeg)) h) + 1).toNatClampNeg))) h).2)) else (if (h 10 ((FX5_firstPart_t a0 (h 28 (a0.toNatClampNeg)) h).toNatClampNeg)) = 14 then (((FX3_lieDown_oc2 a0 (FX3_slotOf a0 (h 10 (((FX5_firstPart_t a0 (h 28 (a0.toNatClampNeg)) h) + 1).toNatClampNeg))) h).1, (FX3_lieDown_oc2 a0 (FX3_slotOf a0 (h 10 (((FX5_firstPart_t a0 (h 28 (a0.toNatClampNeg)) h) + 1).toNatClampNeg))) h).2)) else (if (h 10 ((FX5_firstPart_t a0 (h 28 (a0.toNatClampNeg)) h).toNatClampNeg)) = 15 then (((FX3_wakeSleepers_oc2 a0 (FX3_slotOf a0 (h 10 (((FX5_firstPart_t a0 (h 28 (a0.toNatClampNeg)) h) + 1).toNatClampNeg))) h).1, (FX3_wakeSleepers_oc2 a0 (FX3_slotOf a0 (h 10 (((FX5_firstPart_t a0 (h 28 (a0.toNatClampNeg)) h) + 1).toNatClampNeg))) h).2)) else (if (h 10 ((FX5_firstPart_t a0 (h 28 (a0.toNatClampNeg)) h).toNatClampNeg)) = 16 then (((FX3_takeInput_oc2 (FX3_slotOf a0 (h 10 (((FX5_firstPart_t a0 (h 28 (a0.toNatClampNeg)) h) + 1).toNatClampNeg))) h).1, (FX3_takeInput_oc2 (FX3_slotOf a0 (h 10 (((FX5_firstPart_t a0 (h 28 (a0.toNatClampNeg)) h) + 1).toNatClampNeg))) h).2)) else (if (h 10 ((FX5_firstPart_t a0 (h 28 (a0.toNatClampNeg)) h).toNatClampNeg)) = 17 then (((FX3_startThread_oc2 (FJ9_floorMod_7cf53 (h 10 (((FX5_firstPart_t a0 (h 28 (a0.toNatClampNeg)) h) + 1).toNatClampNeg)) 4) h).1, (FX3_startThread_oc2 (FJ9_floorMod_7cf53 (h 10 (((FX5_firstPart_t a0 (h 28 (a0.toNatClampNeg)) h) + 1).toNatClampNeg)) 4) h).2)) else (if (h 10 ((FX5_firstPart_t a0 (h 28 (a0.toNatClampNeg)) h).toNatClampNeg)) = 18 then (((10 + (FJ9_floorMod_7cf53 (h 10 (((FX5_firstPart_t a0 (h 28 (a0.toNatClampNeg)) h) + 2).toNatClampNeg)) 10)), h)) else (((FX3_goTo_oc2 24 h).1, (FX3_goTo_oc2 24 h).2))))))))))))))))))))
def PX3_perform_oc2 (a0 : Int32) (h : ph_H) : Prop := vp_in a0 4 ∧ ((PX5_firstPart_t a0 (h 28 (a0.toNatClampNeg)) h) ∧ (vp_in ((FX5_firstPart_t a0 (h 28 (a0.toNatClampNeg)) h) + 1) 384 ∧ (vp_in ((FX5_firstPart_t a0 (h 28 (a0.toNatClampNeg)) h) + 2) 384 ∧ ((PX3_slotOf a0 (h 10 (((FX5_firstPart_t a0 (h 28 (a0.toNatClampNeg)) h) + 1).toNatClampNeg))) ∧ ((PX3_slotOf a0 (h 10 (((FX5_firstPart_t a0 (h 28 (a0.toNatClampNeg)) h) + 2).toNatClampNeg))) ∧ (vp_in ((FX5_firstPart_t a0 (h 28 (a0.toNatClampNeg)) h) + 3) 384 ∧ ((PX3_slotOf a0 (h 10 (((FX5_firstPart_t a0 (h 28 (a0.toNatClampNeg)) h) + 3).toNatClampNeg))) ∧ (vp_in (FX5_firstPart_t a0 (h 28 (a0.toNatClampNeg)) h) 384 ∧ (((h 10 ((FX5_firstPart_t a0 (h 28 (a0.toNatClampNeg)) h).toNatClampNeg)) = 0 → ((PX3_hold_oc2 (FX3_slotOf a0 (h 10 (((FX5_firstPart_t a0 (h 28 (a0.toNatClampNeg)) h) + 1).toNatClampNeg))) 0 (h 10 (((FX5_firstPart_t a0 (h 28 (a0.toNatClampNeg)) h) + 2).toNatClampNeg)) h) ∧ (True))) ∧ (¬ (h 10 ((FX5_firstPart_t a0 (h 28 (a0.toNatClampNeg)) h).toNatClampNeg)) = 0 → (((h 10 ((FX5_firstPart_t a0 (h 28 (a0.toNatClampNeg)) h).toNatClampNeg)) = 1 → ((PJ9_floorMod_7cf53 (h 10 (((FX5_firstPart_t a0 (h 28 (a0.toNatClampNeg)) h) + 2).toNatClampNeg)) 12) ∧ ((PX3_getCell_oc2 (FX3_slotOf a0 (h 10 (((FX5_firstPart_t a0 (h 28 (a0.toNatClampNeg)) h) + 1).toNatClampNeg))) (FJ9_floorMod_7cf53 (h 10 (((FX5_firstPart_t a0 (h 28 (a0.toNatClampNeg)) h) + 2).toNatClampNeg)) 12) h) ∧ (True)))) ∧ (¬ (h 10 ((FX5_firstPart_t a0 (h 28 (a0.toNatClampNeg)) h).toNatClampNeg)) = 1 → (((h 10 ((FX5_firstPart_t a0 (h 28 (a0.toNatClampNeg)) h).toNatClampNeg)) = 2 → ((PJ9_floorMod_7cf53 (h 10 (((FX5_firstPart_t a0 (h 28 (a0.toNatClampNeg)) h) + 1).toNatClampNeg)) 12) ∧ ((PX3_putCell_oc2 (FJ9_floorMod_7cf53 (h 10 (((FX5_firstPart_t a0 (h 28 (a0.toNatClampNeg)) h) + 1).toNatClampNeg)) 12) (FX3_slotOf a0 (h 10 (((FX5_firstPart_t a0 (h 28 (a0.toNatClampNeg)) h) + 2).toNatClampNeg))) h) ∧ (True)))) ∧ (¬ (h 10 ((FX5_firstPart_t a0 (h 28 (a0.toNatClampNeg)) h).toNatClampNeg)) = 2 → (((h 10 ((FX5_firstPart_t a0 (h 28 (a0.toNatClampNeg)) h).toNatClampNeg)) = 3 → (vp_in (FX5_firstPart_t a0 (h 28 (a0.toNatClampNeg)) h) 384 ∧ ((PX3_reckon_oc2 (h 10 ((FX5_firstPart_t a0 (h 28 (a0.toNatClampNeg)) h).toNatClampNeg)) (FX3_slotOf a0 (h 10 (((FX5_firstPart_t a0 (h 28 (a0.toNatClampNeg)) h) + 1).toNatClampNeg))) (FX3_slotOf a0 (h 10 (((FX5_firstPart_t a0 (h 28 (a0.toNatClampNeg)) h) + 2).toNatClampNeg))) h) ∧ (True)))) ∧ (¬ (h 10 ((FX5_firstPart_t a0 (h 28 (a0.toNatClampNeg)) h).toNatClampNeg)) = 3 → (((h 10 ((FX5_firstPart_t a0 (h 28 (a0.toNatClampNeg)) h).toNatClampNeg)) = 4 → (vp_in (FX5_firstPart_t a0 (h 28 (a0.toNatClampNeg)) h) 384 ∧ ((PX3_reckon_oc2 (h 10 ((FX5_firstPart_t a0 (h 28 (a0.toNatClampNeg)) h).toNatClampNeg)) (FX3_slotOf a0 (h 10 (((FX5_firstPart_t a0 (h 28 (a0.toNatClampNeg)) h) + 1).toNatClampNeg))) (FX3_slotOf a0 (h 10 (((FX5_firstPart_t a0 (h 28 (a0.toNatClampNeg)) h) + 2).toNatClampNeg))) h) ∧ (True)))) ∧ (¬ (h 10 ((FX5_firstPart_t a0 (h 28 (a0.toNatClampNeg)) h).toNatClampNeg)) = 4 → (((h 10 ((FX5_firstPart_t a0 (h 28 (a0.toNatClampNeg)) h).toNatClampNeg)) = 5 → (vp_in (FX5_firstPart_t a0 (h 28 (a0.toNatClampNeg)) h) 384 ∧ ((PX3_reckon_oc2 (h 10 ((FX5_firstPart_t a0 (h 28 (a0.toNatClampNeg)) h).toNatClampNeg)) (FX3_slotOf a0 (h 10 (((FX5_firstPart_t a0 (h 28 (a0.toNatClampNeg)) h) + 1).toNatClampNeg))) (FX3_slotOf a0 (h 10 (((FX5_firstPart_t a0 (h 28 (a0.toNatClampNeg)) h) + 2).toNatClampNeg))) h) ∧ (True)))) ∧ (¬ (h 10 ((FX5_firstPart_t a0 (h 28 (a0.toNatClampNeg)) h).toNatClampNeg)) = 5 → (((h 10 ((FX5_firstPart_t a0 (h 28 (a0.toNatClampNeg)) h).toNatClampNeg)) = 6 → ((PX3_goTo_oc2 (h 10 (((FX5_firstPart_t a0 (h 28 (a0.toNatClampNeg)) h) + 1).toNatClampNeg)) h) ∧ (True))) ∧ (¬ (h 10 ((FX5_firstPart_t a0 (h 28 (a0.toNatClampNeg)) h).toNatClampNeg)) = 6 → (((h 10 ((FX5_firstPart_t a0 (h 28 (a0.toNatClampNeg)) h).toNatClampNeg)) = 7 → ((PX3_goUnless_oc2 (FX3_slotOf a0 (h 10 (((FX5_firstPart_t a0 (h 28 (a0.toNatClampNeg)) h) + 1).toNatClampNeg))) (h 10 (((FX5_firstPart_t a0 (h 28 (a0.toNatClampNeg)) h) + 2).toNatClampNeg)) h) ∧ (True))) ∧ (¬ (h 10 ((FX5_firstPart_t a0 (h 28 (a0.toNatClampNeg)) h).toNatClampNeg)) = 7 → (((h 10 ((FX5_firstPart_t a0 (h 28 (a0.toNatClampNeg)) h).toNatClampNeg)) = 8 → ((PX3_makeRow_oc2 (FX3_slotOf a0 (h 10 (((FX5_firstPart_t a0 (h 28 (a0.toNatClampNeg)) h) + 1).toNatClampNeg))) (FX3_slotOf a0 (h 10 (((FX5_firstPart_t a0 (h 28 (a0.toNatClampNeg)) h) + 2).toNatClampNeg))) h) ∧ (True))) ∧ (¬ (h 10 ((FX5_firstPart_t a0 (h 28 (a0.toNatClampNeg)) h).toNatClampNeg)) = 8 → (((h 10 ((FX5_firstPart_t a0 (h 28 (a0.toNatClampNeg)) h).toNatClampNeg)) = 9 → ((PX3_readRow_oc2 (FX3_slotOf a0 (h 10 (((FX5_firstPart_t a0 (h 28 (a0.toNatClampNeg)) h) + 1).toNatClampNeg))) (FX3_slotOf a0 (h 10 (((FX5_firstPart_t a0 (h 28 (a0.toNatClampNeg)) h) + 2).toNatClampNeg))) (FX3_slotOf a0 (h 10 (((FX5_firstPart_t a0 (h 28 (a0.toNatClampNeg)) h) + 3).toNatClampNeg))) h) ∧ (True))) ∧ (¬ (h 10 ((FX5_firstPart_t a0 (h 28 (a0.toNatClampNeg)) h).toNatClampNeg)) = 9 → (((h 10 ((FX5_firstPart_t a0 (h 28 (a0.toNatClampNeg)) h).toNatClampNeg)) = 10 → ((PX3_writeRow_oc2 (FX3_slotOf a0 (h 10 (((FX5_firstPart_t a0 (h 28 (a0.toNatClampNeg)) h) + 1).toNatClampNeg))) (FX3_slotOf a0 (h 10 (((FX5_firstPart_t a0 (h 28 (a0.toNatClampNeg)) h) + 2).toNatClampNeg))) (FX3_slotOf a0 (h 10 (((FX5_firstPart_t a0 (h 28 (a0.toNatClampNeg)) h) + 3).toNatClampNeg))) h) ∧ (True))) ∧ (¬ (h 10 ((FX5_firstPart_t a0 (h 28 (a0.toNatClampNeg)) h).toNatClampNeg)) = 10 → (((h 10 ((FX5_firstPart_t a0 (h 28 (a0.toNatClampNeg)) h).toNatClampNeg)) = 11 → ((((h 10 (((FX5_firstPart_t a0 (h 28 (a0.toNatClampNeg)) h) + 2).toNatClampNeg)) &&& 1) = 0 → (PX3_perform_oc2_288  0 (FX3_slotOf a0 (h 10 (((FX5_firstPart_t a0 (h 28 (a0.toNatClampNeg)) h) + 1).toNatClampNeg))) h)) ∧ (¬ ((h 10 (((FX5_firstPart_t a0 (h 28 (a0.toNatClampNeg)) h) + 2).toNatClampNeg)) &&& 1) = 0 → (PX3_perform_oc2_288  1 (FX3_slotOf a0 (h 10 (((FX5_firstPart_t a0 (h 28 (a0.toNatClampNeg)) h) + 1).toNatClampNeg))) h)))) ∧ (¬ (h 10 ((FX5_firstPart_t a0 (h 28 (a0.toNatClampNeg)) h).toNatClampNeg)) = 11 → (((h 10 ((FX5_firstPart_t a0 (h 28 (a0.toNatClampNeg)) h).toNatClampNeg)) = 12 → ((PX3_takeLock_oc2 a0 (FX3_slotOf a0 (h 10 (((FX5_firstPart_t a0 (h 28 (a0.toNatClampNeg)) h) + 1).toNatClampNeg))) h) ∧ (True))) ∧ (¬ (h 10 ((FX5_firstPart_t a0 (h 28 (a0.toNatClampNeg)) h).toNatClampNeg)) = 12 → (((h 10 ((FX5_firstPart_t a0 (h 28 (a0.toNatClampNeg)) h).toNatClampNeg)) = 13 → ((PX3_leaveLock_oc2 a0 (FX3_slotOf a0 (h 10 (((FX5_firstPart_t a0 (h 28 (a0.toNatClampNeg)) h) + 1).toNatClampNeg))) h) ∧ (True))) ∧ (¬ (h 10 ((FX5_firstPart_t a0 (h 28 (a0.toNatClampNeg)) h).toNatClampNeg)) = 13 → (((h 10 ((FX5_firstPart_t a0 (h 28 (a0.toNatClampNeg)) h).toNatClampNeg)) = 14 → ((PX3_lieDown_oc2 a0 (FX3_slotOf a0 (h 10 (((FX5_firstPart_t a0 (h 28 (a0.toNatClampNeg)) h) + 1).toNatClampNeg))) h) ∧ (True))) ∧ (¬ (h 10 ((FX5_firstPart_t a0 (h 28 (a0.toNatClampNeg)) h).toNatClampNeg)) = 14 → (((h 10 ((FX5_firstPart_t a0 (h 28 (a0.toNatClampNeg)) h).toNatClampNeg)) = 15 → ((PX3_wakeSleepers_oc2 a0 (FX3_slotOf a0 (h 10 (((FX5_firstPart_t a0 (h 28 (a0.toNatClampNeg)) h) + 1).toNatClampNeg))) h) ∧ (True))) ∧ (¬ (h 10 ((FX5_firstPart_t a0 (h 28 (a0.toNatClampNeg)) h).toNatClampNeg)) = 15 → (((h 10 ((FX5_firstPart_t a0 (h 28 (a0.toNatClampNeg)) h).toNatClampNeg)) = 16 → ((PX3_takeInput_oc2 (FX3_slotOf a0 (h 10 (((FX5_firstPart_t a0 (h 28 (a0.toNatClampNeg)) h) + 1).toNatClampNeg))) h) ∧ (True))) ∧ (¬ (h 10 ((FX5_firstPart_t a0 (h 28 (a0.toNatClampNeg)) h).toNatClampNeg)) = 16 → (((h 10 ((FX5_firstPart_t a0 (h 28 (a0.toNatClampNeg)) h).toNatClampNeg)) = 17 → ((PJ9_floorMod_7cf53 (h 10 (((FX5_firstPart_t a0 (h 28 (a0.toNatClampNeg)) h) + 1).toNatClampNeg)) 4) ∧ ((PX3_startThread_oc2 (FJ9_floorMod_7cf53 (h 10 (((FX5_firstPart_t a0 (h 28 (a0.toNatClampNeg)) h) + 1).toNatClampNeg)) 4) h) ∧ (True)))) ∧ (¬ (h 10 ((FX5_firstPart_t a0 (h 28 (a0.toNatClampNeg)) h).toNatClampNeg)) = 17 → (((h 10 ((FX5_firstPart_t a0 (h 28 (a0.toNatClampNeg)) h).toNatClampNeg)) = 18 → ((PJ9_floorMod_7cf53 (h 10 (((FX5_firstPart_t a0 (h 28 (a0.toNatClampNeg)) h) + 2).toNatClampNeg)) 10) ∧ (True))) ∧ (¬ (h 10 ((FX5_firstPart_t a0 (h 28 (a0.toNatClampNeg)) h).toNatClampNeg)) = 18 → ((PX3_goTo_oc2 24 h) ∧ (True))))))))))))))))))))))))))))))))))))))))))))))))
set_option maxRecDepth 100000 in
set_option maxHeartbeats 4000000 in
theorem tX3_perform_oc2 {X : fj_X} {Y : fj_Y} {l0 : Launch} {ad : Nat → Nat} {n : Nat} {S : ph_S} (W : WS 8 n S) (C : FC X Y l0 cX3_perform 8 RX3 ({ frames := 2, cells := 0, slots := 0, locals := 49 } : Room) 0 0 (some .int)) (a0 : Int32) (h : ph_H) (hP : PX3_perform_oc2 a0 h) (hR : RETi X Y ad n S cX3_perform (FX3_perform_oc2 a0 h)) : FJ X Y ad n S h 0 [(0, .ref (ad 25)), (1, .int a0)] [] := by
  unfold PX3_perform_oc2 at hP
  unfold FX3_perform_oc2 at hR
  refine j_aload_n C dX3_perform_0 rfl rfl ?_
  refine gCRX3_39 C dX3_perform_1 (W.lt 25 (by decide)) (sh_25 W) rfl ?_
  refine j_iload_n C dX3_perform_4 rfl rfl ?_
  refine j_aload_n C dX3_perform_5 rfl rfl ?_
  refine gCRX3_18 C dX3_perform_6 (W.lt 25 (by decide)) (sh_25 W) rfl ?_
  refine j_iload_n C dX3_perform_9 rfl rfl ?_
  obtain ⟨p6, hP⟩ := hP
  refine j_iald (k := 28) (v := (h 28 (a0.toNatClampNeg))) C dX3_perform_10 (W.lt 28 (by decide)) (sh_28 W) p6 rfl ?_
  obtain ⟨p8, hP⟩ := hP
  refine j_callV C (MX5_firstPart_t W a0 (h 28 (a0.toNatClampNeg)) h p8) dX3_perform_11 (CKX5_firstPart (by decide)) ⟨rfl, rfl⟩ lk_RX3_78 in_X5_firstPart se_X5_firstPart (W.lt 8 (by decide)) (sh_8 W) rfl rfl (Nat.le_of_ble_eq_true rfl) ?_
  intro r S' h' hq
  obtain ⟨e1, hh, e3⟩ := hq
  rw [e1, hh, e3]
  refine j_istore_n C dX3_perform_14 rfl (by decide) rfl ?_
  refine j_aload_n C dX3_perform_15 rfl rfl ?_
  refine gCRX3_39 C dX3_perform_16 (W.lt 25 (by decide)) (sh_25 W) rfl ?_
  refine gCRX3_82 C dX3_perform_19 (W.lt 8 (by decide)) (sh_8 W) rfl ?_
  refine j_iload_n C dX3_perform_22 rfl rfl ?_
  refine j_iconst (v := 1) C dX3_perform_23 (by decide) ?_
  refine j_iadd C dX3_perform_24 ?_
  obtain ⟨p20, hP⟩ := hP
  refine j_iald (k := 10) (v := (h 10 (((FX5_firstPart_t a0 (h 28 (a0.toNatClampNeg)) h) + 1).toNatClampNeg))) C dX3_perform_25 (W.lt 10 (by decide)) (sh_10 W) p20 rfl ?_
  refine j_istore_n C dX3_perform_26 rfl (by decide) rfl ?_
  refine j_aload_n C dX3_perform_27 rfl rfl ?_
  refine gCRX3_39 C dX3_perform_28 (W.lt 25 (by decide)) (sh_25 W) rfl ?_
  refine gCRX3_82 C dX3_perform_31 (W.lt 8 (by decide)) (sh_8 W) rfl ?_
  refine j_iload_n C dX3_perform_34 rfl rfl ?_
  refine j_iconst (v := 2) C dX3_perform_35 (by decide) ?_
  refine j_iadd C dX3_perform_36 ?_
  obtain ⟨p29, hP⟩ := hP
  refine j_iald (k := 10) (v := (h 10 (((FX5_firstPart_t a0 (h 28 (a0.toNatClampNeg)) h) + 2).toNatClampNeg))) C dX3_perform_37 (W.lt 10 (by decide)) (sh_10 W) p29 rfl ?_
  refine j_istore C dX3_perform_38 (by decide) rfl ?_
  refine j_iload_n C dX3_perform_40 rfl rfl ?_
  refine j_iload_n C dX3_perform_41 rfl rfl ?_
  obtain ⟨p34, hP⟩ := hP
  refine j_callS C (MX3_slotOf W a0 (h 10 (((FX5_firstPart_t a0 (h 28 (a0.toNatClampNeg)) h) + 1).toNatClampNeg)) h p34) dX3_perform_42 (CKX3_slotOf (by decide)) ⟨rfl, rfl⟩ lk_RX3_85 st_X3_slotOf rfl (Nat.le_of_ble_eq_true rfl) ?_
  intro r S' h' hq
  obtain ⟨e1, hh, e3⟩ := hq
  rw [e1, hh, e3]
  refine j_istore C dX3_perform_45 (by decide) rfl ?_
  refine j_iload_n C dX3_perform_47 rfl rfl ?_
  refine j_iload C dX3_perform_48 rfl ?_
  obtain ⟨p42, hP⟩ := hP
  refine j_callS C (MX3_slotOf W a0 (h 10 (((FX5_firstPart_t a0 (h 28 (a0.toNatClampNeg)) h) + 2).toNatClampNeg)) h p42) dX3_perform_50 (CKX3_slotOf (by decide)) ⟨rfl, rfl⟩ lk_RX3_85 st_X3_slotOf rfl (Nat.le_of_ble_eq_true rfl) ?_
  intro r S' h' hq
  obtain ⟨e1, hh, e3⟩ := hq
  rw [e1, hh, e3]
  refine j_istore C dX3_perform_53 (by decide) rfl ?_
  refine j_iload_n C dX3_perform_55 rfl rfl ?_
  refine j_aload_n C dX3_perform_56 rfl rfl ?_
  refine gCRX3_39 C dX3_perform_57 (W.lt 25 (by decide)) (sh_25 W) rfl ?_
  refine gCRX3_82 C dX3_perform_60 (W.lt 8 (by decide)) (sh_8 W) rfl ?_
  refine j_iload_n C dX3_perform_63 rfl rfl ?_
  refine j_iconst (v := 3) C dX3_perform_64 (by decide) ?_
  refine j_iadd C dX3_perform_65 ?_
  obtain ⟨p55, hP⟩ := hP
  refine j_iald (k := 10) (v := (h 10 (((FX5_firstPart_t a0 (h 28 (a0.toNatClampNeg)) h) + 3).toNatClampNeg))) C dX3_perform_66 (W.lt 10 (by decide)) (sh_10 W) p55 rfl ?_
  obtain ⟨p57, hP⟩ := hP
  refine j_callS C (MX3_slotOf W a0 (h 10 (((FX5_firstPart_t a0 (h 28 (a0.toNatClampNeg)) h) + 3).toNatClampNeg)) h p57) dX3_perform_67 (CKX3_slotOf (by decide)) ⟨rfl, rfl⟩ lk_RX3_85 st_X3_slotOf rfl (Nat.le_of_ble_eq_true rfl) ?_
  intro r S' h' hq
  obtain ⟨e1, hh, e3⟩ := hq
  rw [e1, hh, e3]
  refine j_istore C dX3_perform_70 (by decide) rfl ?_
  refine j_aload_n C dX3_perform_72 rfl rfl ?_
  refine gCRX3_39 C dX3_perform_73 (W.lt 25 (by decide)) (sh_25 W) rfl ?_
  refine gCRX3_82 C dX3_perform_76 (W.lt 8 (by decide)) (sh_8 W) rfl ?_
  refine j_iload_n C dX3_perform_79 rfl rfl ?_
  obtain ⟨p67, hP⟩ := hP
  refine j_iald (k := 10) (v := (h 10 ((FX5_firstPart_t a0 (h 28 (a0.toNatClampNeg)) h).toNatClampNeg))) C dX3_perform_80 (W.lt 10 (by decide)) (sh_10 W) p67 rfl ?_
  rcases Classical.em ((h 10 ((FX5_firstPart_t a0 (h 28 (a0.toNatClampNeg)) h).toNatClampNeg)) = 0) with c0 | c0
  · have hP := hP.1 c0
    rw [if_pos c0] at hR
    refine j_tableIn (tgt := 172) (off := 91) C dX3_perform_81 (by rw [c0]; decide) (by rw [c0]; decide) (by rw [c0]; decide) (by decide) ?_
    refine j_aload_n C dX3_perform_172 rfl rfl ?_
    refine j_iload C dX3_perform_173 rfl ?_
    refine j_iconst (v := 0) C dX3_perform_175 (by decide) ?_
    refine j_iload C dX3_perform_176 rfl ?_
    obtain ⟨p4, hP⟩ := hP
    refine j_callV C (MX3_hold_oc2 W (FX3_slotOf a0 (h 10 (((FX5_firstPart_t a0 (h 28 (a0.toNatClampNeg)) h) + 1).toNatClampNeg))) 0 (h 10 (((FX5_firstPart_t a0 (h 28 (a0.toNatClampNeg)) h) + 2).toNatClampNeg)) h p4) dX3_perform_178 (CKX3_hold (by decide)) ⟨rfl, rfl⟩ lk_RX3_135 in_X3_hold se_X3_hold (W.lt 25 (by decide)) (sh_25 W) rfl rfl (Nat.le_of_ble_eq_true rfl) ?_
    intro r S' h' hq
    obtain ⟨e1, e2, e3⟩ := hq
    rw [e1, e2, e3]
    exact RETi_u hR _ _ dX3_perform_181
  have hP := hP.2 c0
  rw [if_neg c0] at hR
  rcases Classical.em ((h 10 ((FX5_firstPart_t a0 (h 28 (a0.toNatClampNeg)) h).toNatClampNeg)) = 1) with c1 | c1
  · have hP := hP.1 c1
    rw [if_pos c1] at hR
    refine j_tableIn (tgt := 182) (off := 101) C dX3_perform_81 (by rw [c1]; decide) (by rw [c1]; decide) (by rw [c1]; decide) (by decide) ?_
    refine j_aload_n C dX3_perform_182 rfl rfl ?_
    refine j_iload C dX3_perform_183 rfl ?_
    refine j_iload C dX3_perform_185 rfl ?_
    refine j_bipush (v := 12) C dX3_perform_187 (by decide) ?_
    obtain ⟨p4, hP⟩ := hP
    refine j_callS C (MJ9_floorMod_7cf53 W (h 10 (((FX5_firstPart_t a0 (h 28 (a0.toNatClampNeg)) h) + 2).toNatClampNeg)) 12 h p4) dX3_perform_189 (CKJ9_floorMod_7cf53 (by decide)) ⟨rfl, rfl⟩ lk_RX3_139 st_J9_floorMod_7cf53 rfl (Nat.le_of_ble_eq_true rfl) ?_
    intro r S' h' hq
    obtain ⟨e1, hh, e3⟩ := hq
    rw [e1, hh, e3]
    obtain ⟨p9, hP⟩ := hP
    refine j_callV C (MX3_getCell_oc2 W (FX3_slotOf a0 (h 10 (((FX5_firstPart_t a0 (h 28 (a0.toNatClampNeg)) h) + 1).toNatClampNeg))) (FJ9_floorMod_7cf53 (h 10 (((FX5_firstPart_t a0 (h 28 (a0.toNatClampNeg)) h) + 2).toNatClampNeg)) 12) h p9) dX3_perform_192 (CKX3_getCell (by decide)) ⟨rfl, rfl⟩ lk_RX3_144 in_X3_getCell se_X3_getCell (W.lt 25 (by decide)) (sh_25 W) rfl rfl (Nat.le_of_ble_eq_true rfl) ?_
    intro r S' h' hq
    obtain ⟨e1, e2, e3⟩ := hq
    rw [e1, e2, e3]
    exact RETi_u hR _ _ dX3_perform_195
  have hP := hP.2 c1
  rw [if_neg c1] at hR
  rcases Classical.em ((h 10 ((FX5_firstPart_t a0 (h 28 (a0.toNatClampNeg)) h).toNatClampNeg)) = 2) with c2 | c2
  · have hP := hP.1 c2
    rw [if_pos c2] at hR
    refine j_tableIn (tgt := 196) (off := 115) C dX3_perform_81 (by rw [c2]; decide) (by rw [c2]; decide) (by rw [c2]; decide) (by decide) ?_
    refine j_aload_n C dX3_perform_196 rfl rfl ?_
    refine j_iload_n C dX3_perform_197 rfl rfl ?_
    refine j_bipush (v := 12) C dX3_perform_198 (by decide) ?_
    obtain ⟨p3, hP⟩ := hP
    refine j_callS C (MJ9_floorMod_7cf53 W (h 10 (((FX5_firstPart_t a0 (h 28 (a0.toNatClampNeg)) h) + 1).toNatClampNeg)) 12 h p3) dX3_perform_200 (CKJ9_floorMod_7cf53 (by decide)) ⟨rfl, rfl⟩ lk_RX3_139 st_J9_floorMod_7cf53 rfl (Nat.le_of_ble_eq_true rfl) ?_
    intro r S' h' hq
    obtain ⟨e1, hh, e3⟩ := hq
    rw [e1, hh, e3]
    refine j_iload C dX3_perform_203 rfl ?_
    obtain ⟨p9, hP⟩ := hP
    refine j_callV C (MX3_putCell_oc2 W (FJ9_floorMod_7cf53 (h 10 (((FX5_firstPart_t a0 (h 28 (a0.toNatClampNeg)) h) + 1).toNatClampNeg)) 12) (FX3_slotOf a0 (h 10 (((FX5_firstPart_t a0 (h 28 (a0.toNatClampNeg)) h) + 2).toNatClampNeg))) h p9) dX3_perform_205 (CKX3_putCell (by decide)) ⟨rfl, rfl⟩ lk_RX3_147 in_X3_putCell se_X3_putCell (W.lt 25 (by decide)) (sh_25 W) rfl rfl (Nat.le_of_ble_eq_true rfl) ?_
    intro r S' h' hq
    obtain ⟨e1, e2, e3⟩ := hq
    rw [e1, e2, e3]
    exact RETi_u hR _ _ dX3_perform_208
  have hP := hP.2 c2
  rw [if_neg c2] at hR
  rcases Classical.em ((h 10 ((FX5_firstPart_t a0 (h 28 (a0.toNatClampNeg)) h).toNatClampNeg)) = 3) with c3 | c3
  · have hP := hP.1 c3
    rw [if_pos c3] at hR
    refine j_tableIn (tgt := 209) (off := 128) C dX3_perform_81 (by rw [c3]; decide) (by rw [c3]; decide) (by rw [c3]; decide) (by decide) ?_
    refine j_aload_n C dX3_perform_209 rfl rfl ?_
    refine j_aload_n C dX3_perform_210 rfl rfl ?_
    refine gCRX3_39 C dX3_perform_211 (W.lt 25 (by decide)) (sh_25 W) rfl ?_
    refine gCRX3_82 C dX3_perform_214 (W.lt 8 (by decide)) (sh_8 W) rfl ?_
    refine j_iload_n C dX3_perform_217 rfl rfl ?_
    obtain ⟨p5, hP⟩ := hP
    refine j_iald (k := 10) (v := (h 10 ((FX5_firstPart_t a0 (h 28 (a0.toNatClampNeg)) h).toNatClampNeg))) C dX3_perform_218 (W.lt 10 (by decide)) (sh_10 W) p5 rfl ?_
    refine j_iload C dX3_perform_219 rfl ?_
    refine j_iload C dX3_perform_221 rfl ?_
    obtain ⟨p9, hP⟩ := hP
    refine j_callV C (MX3_reckon_oc2 W (h 10 ((FX5_firstPart_t a0 (h 28 (a0.toNatClampNeg)) h).toNatClampNeg)) (FX3_slotOf a0 (h 10 (((FX5_firstPart_t a0 (h 28 (a0.toNatClampNeg)) h) + 1).toNatClampNeg))) (FX3_slotOf a0 (h 10 (((FX5_firstPart_t a0 (h 28 (a0.toNatClampNeg)) h) + 2).toNatClampNeg))) h p9) dX3_perform_223 (CKX3_reckon (by decide)) ⟨rfl, rfl⟩ lk_RX3_150 in_X3_reckon se_X3_reckon (W.lt 25 (by decide)) (sh_25 W) rfl rfl (Nat.le_of_ble_eq_true rfl) ?_
    intro r S' h' hq
    obtain ⟨e1, e2, e3⟩ := hq
    rw [e1, e2, e3]
    exact RETi_u hR _ _ dX3_perform_226
  have hP := hP.2 c3
  rw [if_neg c3] at hR
  rcases Classical.em ((h 10 ((FX5_firstPart_t a0 (h 28 (a0.toNatClampNeg)) h).toNatClampNeg)) = 4) with c4 | c4
  · have hP := hP.1 c4
    rw [if_pos c4] at hR
    refine j_tableIn (tgt := 209) (off := 128) C dX3_perform_81 (by rw [c4]; decide) (by rw [c4]; decide) (by rw [c4]; decide) (by decide) ?_
    refine j_aload_n C dX3_perform_209 rfl rfl ?_
    refine j_aload_n C dX3_perform_210 rfl rfl ?_
    refine gCRX3_39 C dX3_perform_211 (W.lt 25 (by decide)) (sh_25 W) rfl ?_
    refine gCRX3_82 C dX3_perform_214 (W.lt 8 (by decide)) (sh_8 W) rfl ?_
    refine j_iload_n C dX3_perform_217 rfl rfl ?_
    obtain ⟨p5, hP⟩ := hP
    refine j_iald (k := 10) (v := (h 10 ((FX5_firstPart_t a0 (h 28 (a0.toNatClampNeg)) h).toNatClampNeg))) C dX3_perform_218 (W.lt 10 (by decide)) (sh_10 W) p5 rfl ?_
    refine j_iload C dX3_perform_219 rfl ?_
    refine j_iload C dX3_perform_221 rfl ?_
    obtain ⟨p9, hP⟩ := hP
    refine j_callV C (MX3_reckon_oc2 W (h 10 ((FX5_firstPart_t a0 (h 28 (a0.toNatClampNeg)) h).toNatClampNeg)) (FX3_slotOf a0 (h 10 (((FX5_firstPart_t a0 (h 28 (a0.toNatClampNeg)) h) + 1).toNatClampNeg))) (FX3_slotOf a0 (h 10 (((FX5_firstPart_t a0 (h 28 (a0.toNatClampNeg)) h) + 2).toNatClampNeg))) h p9) dX3_perform_223 (CKX3_reckon (by decide)) ⟨rfl, rfl⟩ lk_RX3_150 in_X3_reckon se_X3_reckon (W.lt 25 (by decide)) (sh_25 W) rfl rfl (Nat.le_of_ble_eq_true rfl) ?_
    intro r S' h' hq
    obtain ⟨e1, e2, e3⟩ := hq
    rw [e1, e2, e3]
    exact RETi_u hR _ _ dX3_perform_226
  have hP := hP.2 c4
  rw [if_neg c4] at hR
  rcases Classical.em ((h 10 ((FX5_firstPart_t a0 (h 28 (a0.toNatClampNeg)) h).toNatClampNeg)) = 5) with c5 | c5
  · have hP := hP.1 c5
    rw [if_pos c5] at hR
    refine j_tableIn (tgt := 209) (off := 128) C dX3_perform_81 (by rw [c5]; decide) (by rw [c5]; decide) (by rw [c5]; decide) (by decide) ?_
    refine j_aload_n C dX3_perform_209 rfl rfl ?_
    refine j_aload_n C dX3_perform_210 rfl rfl ?_
    refine gCRX3_39 C dX3_perform_211 (W.lt 25 (by decide)) (sh_25 W) rfl ?_
    refine gCRX3_82 C dX3_perform_214 (W.lt 8 (by decide)) (sh_8 W) rfl ?_
    refine j_iload_n C dX3_perform_217 rfl rfl ?_
    obtain ⟨p5, hP⟩ := hP
    refine j_iald (k := 10) (v := (h 10 ((FX5_firstPart_t a0 (h 28 (a0.toNatClampNeg)) h).toNatClampNeg))) C dX3_perform_218 (W.lt 10 (by decide)) (sh_10 W) p5 rfl ?_
    refine j_iload C dX3_perform_219 rfl ?_
    refine j_iload C dX3_perform_221 rfl ?_
    obtain ⟨p9, hP⟩ := hP
    refine j_callV C (MX3_reckon_oc2 W (h 10 ((FX5_firstPart_t a0 (h 28 (a0.toNatClampNeg)) h).toNatClampNeg)) (FX3_slotOf a0 (h 10 (((FX5_firstPart_t a0 (h 28 (a0.toNatClampNeg)) h) + 1).toNatClampNeg))) (FX3_slotOf a0 (h 10 (((FX5_firstPart_t a0 (h 28 (a0.toNatClampNeg)) h) + 2).toNatClampNeg))) h p9) dX3_perform_223 (CKX3_reckon (by decide)) ⟨rfl, rfl⟩ lk_RX3_150 in_X3_reckon se_X3_reckon (W.lt 25 (by decide)) (sh_25 W) rfl rfl (Nat.le_of_ble_eq_true rfl) ?_
    intro r S' h' hq
    obtain ⟨e1, e2, e3⟩ := hq
    rw [e1, e2, e3]
    exact RETi_u hR _ _ dX3_perform_226
  have hP := hP.2 c5
  rw [if_neg c5] at hR
  rcases Classical.em ((h 10 ((FX5_firstPart_t a0 (h 28 (a0.toNatClampNeg)) h).toNatClampNeg)) = 6) with c6 | c6
  · have hP := hP.1 c6
    rw [if_pos c6] at hR
    refine j_tableIn (tgt := 227) (off := 146) C dX3_perform_81 (by rw [c6]; decide) (by rw [c6]; decide) (by rw [c6]; decide) (by decide) ?_
    refine j_aload_n C dX3_perform_227 rfl rfl ?_
    refine j_iload_n C dX3_perform_228 rfl rfl ?_
    obtain ⟨p2, hP⟩ := hP
    refine j_callV C (MX3_goTo_oc2 W (h 10 (((FX5_firstPart_t a0 (h 28 (a0.toNatClampNeg)) h) + 1).toNatClampNeg)) h p2) dX3_perform_229 (CKX3_goTo (by decide)) ⟨rfl, rfl⟩ lk_RX3_153 in_X3_goTo se_X3_goTo (W.lt 25 (by decide)) (sh_25 W) rfl rfl (Nat.le_of_ble_eq_true rfl) ?_
    intro r S' h' hq
    obtain ⟨e1, e2, e3⟩ := hq
    rw [e1, e2, e3]
    exact RETi_u hR _ _ dX3_perform_232
  have hP := hP.2 c6
  rw [if_neg c6] at hR
  rcases Classical.em ((h 10 ((FX5_firstPart_t a0 (h 28 (a0.toNatClampNeg)) h).toNatClampNeg)) = 7) with c7 | c7
  · have hP := hP.1 c7
    rw [if_pos c7] at hR
    refine j_tableIn (tgt := 233) (off := 152) C dX3_perform_81 (by rw [c7]; decide) (by rw [c7]; decide) (by rw [c7]; decide) (by decide) ?_
    refine j_aload_n C dX3_perform_233 rfl rfl ?_
    refine j_iload C dX3_perform_234 rfl ?_
    refine j_iload C dX3_perform_236 rfl ?_
    obtain ⟨p3, hP⟩ := hP
    refine j_callV C (MX3_goUnless_oc2 W (FX3_slotOf a0 (h 10 (((FX5_firstPart_t a0 (h 28 (a0.toNatClampNeg)) h) + 1).toNatClampNeg))) (h 10 (((FX5_firstPart_t a0 (h 28 (a0.toNatClampNeg)) h) + 2).toNatClampNeg)) h p3) dX3_perform_238 (CKX3_goUnless (by decide)) ⟨rfl, rfl⟩ lk_RX3_156 in_X3_goUnless se_X3_goUnless (W.lt 25 (by decide)) (sh_25 W) rfl rfl (Nat.le_of_ble_eq_true rfl) ?_
    intro r S' h' hq
    obtain ⟨e1, e2, e3⟩ := hq
    rw [e1, e2, e3]
    exact RETi_u hR _ _ dX3_perform_241
  have hP := hP.2 c7
  rw [if_neg c7] at hR
  rcases Classical.em ((h 10 ((FX5_firstPart_t a0 (h 28 (a0.toNatClampNeg)) h).toNatClampNeg)) = 8) with c8 | c8
  · have hP := hP.1 c8
    rw [if_pos c8] at hR
    refine j_tableIn (tgt := 242) (off := 161) C dX3_perform_81 (by rw [c8]; decide) (by rw [c8]; decide) (by rw [c8]; decide) (by decide) ?_
    refine j_aload_n C dX3_perform_242 rfl rfl ?_
    refine j_iload C dX3_perform_243 rfl ?_
    refine j_iload C dX3_perform_245 rfl ?_
    obtain ⟨p3, hP⟩ := hP
    refine j_callV C (MX3_makeRow_oc2 W (FX3_slotOf a0 (h 10 (((FX5_firstPart_t a0 (h 28 (a0.toNatClampNeg)) h) + 1).toNatClampNeg))) (FX3_slotOf a0 (h 10 (((FX5_firstPart_t a0 (h 28 (a0.toNatClampNeg)) h) + 2).toNatClampNeg))) h p3) dX3_perform_247 (CKX3_makeRow (by decide)) ⟨rfl, rfl⟩ lk_RX3_159 in_X3_makeRow se_X3_makeRow (W.lt 25 (by decide)) (sh_25 W) rfl rfl (Nat.le_of_ble_eq_true rfl) ?_
    intro r S' h' hq
    obtain ⟨e1, e2, e3⟩ := hq
    rw [e1, e2, e3]
    exact RETi_u hR _ _ dX3_perform_250
  have hP := hP.2 c8
  rw [if_neg c8] at hR
  rcases Classical.em ((h 10 ((FX5_firstPart_t a0 (h 28 (a0.toNatClampNeg)) h).toNatClampNeg)) = 9) with c9 | c9
  · have hP := hP.1 c9
    rw [if_pos c9] at hR
    refine j_tableIn (tgt := 251) (off := 170) C dX3_perform_81 (by rw [c9]; decide) (by rw [c9]; decide) (by rw [c9]; decide) (by decide) ?_
    refine j_aload_n C dX3_perform_251 rfl rfl ?_
    refine j_iload C dX3_perform_252 rfl ?_
    refine j_iload C dX3_perform_254 rfl ?_
    refine j_iload C dX3_perform_256 rfl ?_
    obtain ⟨p4, hP⟩ := hP
    refine j_callV C (MX3_readRow_oc2 W (FX3_slotOf a0 (h 10 (((FX5_firstPart_t a0 (h 28 (a0.toNatClampNeg)) h) + 1).toNatClampNeg))) (FX3_slotOf a0 (h 10 (((FX5_firstPart_t a0 (h 28 (a0.toNatClampNeg)) h) + 2).toNatClampNeg))) (FX3_slotOf a0 (h 10 (((FX5_firstPart_t a0 (h 28 (a0.toNatClampNeg)) h) + 3).toNatClampNeg))) h p4) dX3_perform_258 (CKX3_readRow (by decide)) ⟨rfl, rfl⟩ lk_RX3_162 in_X3_readRow se_X3_readRow (W.lt 25 (by decide)) (sh_25 W) rfl rfl (Nat.le_of_ble_eq_true rfl) ?_
    intro r S' h' hq
    obtain ⟨e1, e2, e3⟩ := hq
    rw [e1, e2, e3]
    exact RETi_u hR _ _ dX3_perform_261
  have hP := hP.2 c9
  rw [if_neg c9] at hR
  rcases Classical.em ((h 10 ((FX5_firstPart_t a0 (h 28 (a0.toNatClampNeg)) h).toNatClampNeg)) = 10) with c10 | c10
  · have hP := hP.1 c10
    rw [if_pos c10] at hR
    refine j_tableIn (tgt := 262) (off := 181) C dX3_perform_81 (by rw [c10]; decide) (by rw [c10]; decide) (by rw [c10]; decide) (by decide) ?_
    refine j_aload_n C dX3_perform_262 rfl rfl ?_
    refine j_iload C dX3_perform_263 rfl ?_
    refine j_iload C dX3_perform_265 rfl ?_
    refine j_iload C dX3_perform_267 rfl ?_
    obtain ⟨p4, hP⟩ := hP
    refine j_callV C (MX3_writeRow_oc2 W (FX3_slotOf a0 (h 10 (((FX5_firstPart_t a0 (h 28 (a0.toNatClampNeg)) h) + 1).toNatClampNeg))) (FX3_slotOf a0 (h 10 (((FX5_firstPart_t a0 (h 28 (a0.toNatClampNeg)) h) + 2).toNatClampNeg))) (FX3_slotOf a0 (h 10 (((FX5_firstPart_t a0 (h 28 (a0.toNatClampNeg)) h) + 3).toNatClampNeg))) h p4) dX3_perform_269 (CKX3_writeRow (by decide)) ⟨rfl, rfl⟩ lk_RX3_165 in_X3_writeRow se_X3_writeRow (W.lt 25 (by decide)) (sh_25 W) rfl rfl (Nat.le_of_ble_eq_true rfl) ?_
    intro r S' h' hq
    obtain ⟨e1, e2, e3⟩ := hq
    rw [e1, e2, e3]
    exact RETi_u hR _ _ dX3_perform_272
  have hP := hP.2 c10
  rw [if_neg c10] at hR
  rcases Classical.em ((h 10 ((FX5_firstPart_t a0 (h 28 (a0.toNatClampNeg)) h).toNatClampNeg)) = 11) with c11 | c11
  · have hP := hP.1 c11
    rw [if_pos c11] at hR
    refine j_tableIn (tgt := 273) (off := 192) C dX3_perform_81 (by rw [c11]; decide) (by rw [c11]; decide) (by rw [c11]; decide) (by decide) ?_
    refine j_aload_n C dX3_perform_273 rfl rfl ?_
    refine j_iload C dX3_perform_274 rfl ?_
    refine j_iload C dX3_perform_276 rfl ?_
    refine j_iconst (v := 1) C dX3_perform_278 (by decide) ?_
    refine j_iand C dX3_perform_279 ?_
    refine j_if_eq (tgt := 287) C dX3_perform_280 (by decide) (fun c12 => ?_) (fun c12 => ?_)
    · have hP := hP.1 c12
      rw [if_pos c12] at hR
      refine j_iconst (v := 0) C dX3_perform_287 (by decide) ?_
      exact j_vl (tX3_perform_oc2_288 W C  0 (FX3_slotOf a0 (h 10 (((FX5_firstPart_t a0 (h 28 (a0.toNatClampNeg)) h) + 1).toNatClampNeg))) h hP hR) trivial
    · have hP := hP.2 c12
      rw [if_neg c12] at hR
      refine j_iconst (v := 1) C dX3_perform_283 (by decide) ?_
      refine j_goto (tgt := 288) C dX3_perform_284 (by decide) ?_
      exact j_vl (tX3_perform_oc2_288 W C  1 (FX3_slotOf a0 (h 10 (((FX5_firstPart_t a0 (h 28 (a0.toNatClampNeg)) h) + 1).toNatClampNeg))) h hP hR) trivial
  have hP := hP.2 c11
  rw [if_neg c11] at hR
  rcases Classical.em ((h 10 ((FX5_firstPart_t a0 (h 28 (a0.toNatClampNeg)) h).toNatClampNeg)) = 12) with c12 | c12
  · have hP := hP.1 c12
    rw [if_pos c12] at hR
    refine j_tableIn (tgt := 292) (off := 211) C dX3_perform_81 (by rw [c12]; decide) (by rw [c12]; decide) (by rw [c12]; decide) (by decide) ?_
    refine j_aload_n C dX3_perform_292 rfl rfl ?_
    refine j_iload_n C dX3_perform_293 rfl rfl ?_
    refine j_iload C dX3_perform_294 rfl ?_
    obtain ⟨p3, hP⟩ := hP
    refine j_callV C (MX3_takeLock_oc2 W a0 (FX3_slotOf a0 (h 10 (((FX5_firstPart_t a0 (h 28 (a0.toNatClampNeg)) h) + 1).toNatClampNeg))) h p3) dX3_perform_296 (CKX3_takeLock (by decide)) ⟨rfl, rfl⟩ lk_RX3_172 in_X3_takeLock se_X3_takeLock (W.lt 25 (by decide)) (sh_25 W) rfl rfl (Nat.le_of_ble_eq_true rfl) ?_
    intro r S' h' hq
    obtain ⟨e1, e2, e3⟩ := hq
    rw [e1, e2, e3]
    exact RETi_u hR _ _ dX3_perform_299
  have hP := hP.2 c12
  rw [if_neg c12] at hR
  rcases Classical.em ((h 10 ((FX5_firstPart_t a0 (h 28 (a0.toNatClampNeg)) h).toNatClampNeg)) = 13) with c13 | c13
  · have hP := hP.1 c13
    rw [if_pos c13] at hR
    refine j_tableIn (tgt := 300) (off := 219) C dX3_perform_81 (by rw [c13]; decide) (by rw [c13]; decide) (by rw [c13]; decide) (by decide) ?_
    refine j_aload_n C dX3_perform_300 rfl rfl ?_
    refine j_iload_n C dX3_perform_301 rfl rfl ?_
    refine j_iload C dX3_perform_302 rfl ?_
    obtain ⟨p3, hP⟩ := hP
    refine j_callV C (MX3_leaveLock_oc2 W a0 (FX3_slotOf a0 (h 10 (((FX5_firstPart_t a0 (h 28 (a0.toNatClampNeg)) h) + 1).toNatClampNeg))) h p3) dX3_perform_304 (CKX3_leaveLock (by decide)) ⟨rfl, rfl⟩ lk_RX3_175 in_X3_leaveLock se_X3_leaveLock (W.lt 25 (by decide)) (sh_25 W) rfl rfl (Nat.le_of_ble_eq_true rfl) ?_
    intro r S' h' hq
    obtain ⟨e1, e2, e3⟩ := hq
    rw [e1, e2, e3]
    exact RETi_u hR _ _ dX3_perform_307
  have hP := hP.2 c13
  rw [if_neg c13] at hR
  rcases Classical.em ((h 10 ((FX5_firstPart_t a0 (h 28 (a0.toNatClampNeg)) h).toNatClampNeg)) = 14) with c14 | c14
  · have hP := hP.1 c14
    rw [if_pos c14] at hR
    refine j_tableIn (tgt := 308) (off := 227) C dX3_perform_81 (by rw [c14]; decide) (by rw [c14]; decide) (by rw [c14]; decide) (by decide) ?_
    refine j_aload_n C dX3_perform_308 rfl rfl ?_
    refine j_iload_n C dX3_perform_309 rfl rfl ?_
    refine j_iload C dX3_perform_310 rfl ?_
    obtain ⟨p3, hP⟩ := hP
    refine j_callV C (MX3_lieDown_oc2 W a0 (FX3_slotOf a0 (h 10 (((FX5_firstPart_t a0 (h 28 (a0.toNatClampNeg)) h) + 1).toNatClampNeg))) h p3) dX3_perform_312 (CKX3_lieDown (by decide)) ⟨rfl, rfl⟩ lk_RX3_178 in_X3_lieDown se_X3_lieDown (W.lt 25 (by decide)) (sh_25 W) rfl rfl (Nat.le_of_ble_eq_true rfl) ?_
    intro r S' h' hq
    obtain ⟨e1, e2, e3⟩ := hq
    rw [e1, e2, e3]
    exact RETi_u hR _ _ dX3_perform_315
  have hP := hP.2 c14
  rw [if_neg c14] at hR
  rcases Classical.em ((h 10 ((FX5_firstPart_t a0 (h 28 (a0.toNatClampNeg)) h).toNatClampNeg)) = 15) with c15 | c15
  · have hP := hP.1 c15
    rw [if_pos c15] at hR
    refine j_tableIn (tgt := 316) (off := 235) C dX3_perform_81 (by rw [c15]; decide) (by rw [c15]; decide) (by rw [c15]; decide) (by decide) ?_
    refine j_aload_n C dX3_perform_316 rfl rfl ?_
    refine j_iload_n C dX3_perform_317 rfl rfl ?_
    refine j_iload C dX3_perform_318 rfl ?_
    obtain ⟨p3, hP⟩ := hP
    refine j_callV C (MX3_wakeSleepers_oc2 W a0 (FX3_slotOf a0 (h 10 (((FX5_firstPart_t a0 (h 28 (a0.toNatClampNeg)) h) + 1).toNatClampNeg))) h p3) dX3_perform_320 (CKX3_wakeSleepers (by decide)) ⟨rfl, rfl⟩ lk_RX3_181 in_X3_wakeSleepers se_X3_wakeSleepers (W.lt 25 (by decide)) (sh_25 W) rfl rfl (Nat.le_of_ble_eq_true rfl) ?_
    intro r S' h' hq
    obtain ⟨e1, e2, e3⟩ := hq
    rw [e1, e2, e3]
    exact RETi_u hR _ _ dX3_perform_323
  have hP := hP.2 c15
  rw [if_neg c15] at hR
  rcases Classical.em ((h 10 ((FX5_firstPart_t a0 (h 28 (a0.toNatClampNeg)) h).toNatClampNeg)) = 16) with c16 | c16
  · have hP := hP.1 c16
    rw [if_pos c16] at hR
    refine j_tableIn (tgt := 324) (off := 243) C dX3_perform_81 (by rw [c16]; decide) (by rw [c16]; decide) (by rw [c16]; decide) (by decide) ?_
    refine j_aload_n C dX3_perform_324 rfl rfl ?_
    refine j_iload C dX3_perform_325 rfl ?_
    obtain ⟨p2, hP⟩ := hP
    refine j_callV C (MX3_takeInput_oc2 W (FX3_slotOf a0 (h 10 (((FX5_firstPart_t a0 (h 28 (a0.toNatClampNeg)) h) + 1).toNatClampNeg))) h p2) dX3_perform_327 (CKX3_takeInput (by decide)) ⟨rfl, rfl⟩ lk_RX3_184 in_X3_takeInput se_X3_takeInput (W.lt 25 (by decide)) (sh_25 W) rfl rfl (Nat.le_of_ble_eq_true rfl) ?_
    intro r S' h' hq
    obtain ⟨e1, e2, e3⟩ := hq
    rw [e1, e2, e3]
    exact RETi_u hR _ _ dX3_perform_330
  have hP := hP.2 c16
  rw [if_neg c16] at hR
  rcases Classical.em ((h 10 ((FX5_firstPart_t a0 (h 28 (a0.toNatClampNeg)) h).toNatClampNeg)) = 17) with c17 | c17
  · have hP := hP.1 c17
    rw [if_pos c17] at hR
    refine j_tableIn (tgt := 331) (off := 250) C dX3_perform_81 (by rw [c17]; decide) (by rw [c17]; decide) (by rw [c17]; decide) (by decide) ?_
    refine j_aload_n C dX3_perform_331 rfl rfl ?_
    refine j_iload_n C dX3_perform_332 rfl rfl ?_
    refine j_iconst (v := 4) C dX3_perform_333 (by decide) ?_
    obtain ⟨p3, hP⟩ := hP
    refine j_callS C (MJ9_floorMod_7cf53 W (h 10 (((FX5_firstPart_t a0 (h 28 (a0.toNatClampNeg)) h) + 1).toNatClampNeg)) 4 h p3) dX3_perform_334 (CKJ9_floorMod_7cf53 (by decide)) ⟨rfl, rfl⟩ lk_RX3_139 st_J9_floorMod_7cf53 rfl (Nat.le_of_ble_eq_true rfl) ?_
    intro r S' h' hq
    obtain ⟨e1, hh, e3⟩ := hq
    rw [e1, hh, e3]
    obtain ⟨p8, hP⟩ := hP
    refine j_callV C (MX3_startThread_oc2 W (FJ9_floorMod_7cf53 (h 10 (((FX5_firstPart_t a0 (h 28 (a0.toNatClampNeg)) h) + 1).toNatClampNeg)) 4) h p8) dX3_perform_337 (CKX3_startThread (by decide)) ⟨rfl, rfl⟩ lk_RX3_187 in_X3_startThread se_X3_startThread (W.lt 25 (by decide)) (sh_25 W) rfl rfl (Nat.le_of_ble_eq_true rfl) ?_
    intro r S' h' hq
    obtain ⟨e1, e2, e3⟩ := hq
    rw [e1, e2, e3]
    exact RETi_u hR _ _ dX3_perform_340
  have hP := hP.2 c17
  rw [if_neg c17] at hR
  rcases Classical.em ((h 10 ((FX5_firstPart_t a0 (h 28 (a0.toNatClampNeg)) h).toNatClampNeg)) = 18) with c18 | c18
  · have hP := hP.1 c18
    rw [if_pos c18] at hR
    refine j_tableIn (tgt := 341) (off := 260) C dX3_perform_81 (by rw [c18]; decide) (by rw [c18]; decide) (by rw [c18]; decide) (by decide) ?_
    refine j_bipush (v := 10) C dX3_perform_341 (by decide) ?_
    refine j_iload C dX3_perform_343 rfl ?_
    refine j_bipush (v := 10) C dX3_perform_345 (by decide) ?_
    obtain ⟨p3, hP⟩ := hP
    refine j_callS C (MJ9_floorMod_7cf53 W (h 10 (((FX5_firstPart_t a0 (h 28 (a0.toNatClampNeg)) h) + 2).toNatClampNeg)) 10 h p3) dX3_perform_347 (CKJ9_floorMod_7cf53 (by decide)) ⟨rfl, rfl⟩ lk_RX3_139 st_J9_floorMod_7cf53 rfl (Nat.le_of_ble_eq_true rfl) ?_
    intro r S' h' hq
    obtain ⟨e1, hh, e3⟩ := hq
    rw [e1, hh, e3]
    refine j_iadd C dX3_perform_350 ?_
    exact RETi_u hR _ _ dX3_perform_351
  have hP := hP.2 c18
  rw [if_neg c18] at hR
  refine j_tableOut (tgt := 352) C dX3_perform_81 (sw_out (fun v h1 h2 e => by rcases (show v = 0 ∨ v = 1 ∨ v = 2 ∨ v = 3 ∨ v = 4 ∨ v = 5 ∨ v = 6 ∨ v = 7 ∨ v = 8 ∨ v = 9 ∨ v = 10 ∨ v = 11 ∨ v = 12 ∨ v = 13 ∨ v = 14 ∨ v = 15 ∨ v = 16 ∨ v = 17 ∨ v = 18 by omega) with z | z | z | z | z | z | z | z | z | z | z | z | z | z | z | z | z | z | z <;> rw [z] at e <;> first | exact c0 (e.trans (by decide)) | exact c1 (e.trans (by decide)) | exact c2 (e.trans (by decide)) | exact c3 (e.trans (by decide)) | exact c4 (e.trans (by decide)) | exact c5 (e.trans (by decide)) | exact c6 (e.trans (by decide)) | exact c7 (e.trans (by decide)) | exact c8 (e.trans (by decide)) | exact c9 (e.trans (by decide)) | exact c10 (e.trans (by decide)) | exact c11 (e.trans (by decide)) | exact c12 (e.trans (by decide)) | exact c13 (e.trans (by decide)) | exact c14 (e.trans (by decide)) | exact c15 (e.trans (by decide)) | exact c16 (e.trans (by decide)) | exact c17 (e.trans (by decide)) | exact c18 (e.trans (by decide)))) (by decide) ?_
  refine j_aload_n C dX3_perform_352 rfl rfl ?_
  refine j_bipush (v := 24) C dX3_perform_353 (by decide) ?_
  obtain ⟨p2, hP⟩ := hP
  refine j_callV C (MX3_goTo_oc2 W 24 h p2) dX3_perform_355 (CKX3_goTo (by decide)) ⟨rfl, rfl⟩ lk_RX3_153 in_X3_goTo se_X3_goTo (W.lt 25 (by decide)) (sh_25 W) rfl rfl (Nat.le_of_ble_eq_true rfl) ?_
  intro r S' h' hq
  obtain ⟨e1, e2, e3⟩ := hq
  rw [e1, e2, e3]
  exact RETi_u hR _ _ dX3_perform_358
theorem MX3_perform_oc2 {l0 : Launch} {Y : fj_Y} {ad : Nat → Nat} {n : Nat} {S : ph_S} (W : WS 8 n S) (a0 : Int32) (h : ph_H) (hP : PX3_perform_oc2 a0 h) : MI l0 yX3_perform cX3_perform 8 (some .int) ({ frames := 2, cells := 0, slots := 0, locals := 49 } : Room) Y ad n S h [.ref (ad 25), .int a0] (fun r S' h' => S' = S ∧ h' = (FX3_perform_oc2 a0 h).2 ∧ r = (FX3_perform_oc2 a0 h).1) := met_i (by decide) (Nat.le_of_ble_eq_true rfl) (fun _ _ _ _ => rfl) (fun X C K => j_vl (tX3_perform_oc2 W C a0 h hP (fun pc lv hd => K _ _ _ ⟨rfl, rfl, rfl⟩ pc lv hd)) ⟨rfl, rfl, trivial⟩)

-- X3_rise_oc2
def FX3_rise_oc2 (a0 : Int32) (h : ph_H) : Int32 × ph_H := ((FX3_own_oc2 a0 (h 30 (a0.toNatClampNeg)) (hs h 29 a0.toNatClampNeg 1)).1, (FX3_own_oc2 a0 (h 30 (a0.toNatClampNeg)) (hs h 29 a0.toNatClampNeg 1)).2)
def PX3_rise_oc2 (a0 : Int32) (h : ph_H) : Prop := vp_in a0 4 ∧ (vp_in a0 4 ∧ ((PX3_own_oc2 a0 (h 30 (a0.toNatClampNeg)) (hs h 29 a0.toNatClampNeg 1)) ∧ (True)))
set_option maxRecDepth 100000 in
set_option maxHeartbeats 4000000 in
theorem tX3_rise_oc2 {X : fj_X} {Y : fj_Y} {l0 : Launch} {ad : Nat → Nat} {n : Nat} {S : ph_S} (W : WS 8 n S) (C : FC X Y l0 cX3_rise 2 RX3 ({ frames := 1, cells := 0, slots := 0, locals := 22 } : Room) 0 0 (some .int)) (a0 : Int32) (h : ph_H) (hP : PX3_rise_oc2 a0 h) (hR : RETi X Y ad n S cX3_rise (FX3_rise_oc2 a0 h)) : FJ X Y ad n S h 0 [(0, .ref (ad 25)), (1, .int a0)] [] := by
  unfold PX3_rise_oc2 at hP
  unfold FX3_rise_oc2 at hR
  refine j_aload_n C dX3_rise_0 rfl rfl ?_
  refine gCRX3_21 C dX3_rise_1 (W.lt 25 (by decide)) (sh_25 W) rfl ?_
  refine j_iload_n C dX3_rise_4 rfl rfl ?_
  refine j_iconst (v := 1) C dX3_rise_5 (by decide) ?_
  obtain ⟨p4, hP⟩ := hP
  refine j_iast (k := 29) C dX3_rise_6 (W.lt 29 (by decide)) (sh_29 W) p4 ?_
  refine j_aload_n C dX3_rise_7 rfl rfl ?_
  refine j_iload_n C dX3_rise_8 rfl rfl ?_
  refine j_aload_n C dX3_rise_9 rfl rfl ?_
  refine gCRX3_24 C dX3_rise_10 (W.lt 25 (by decide)) (sh_25 W) rfl ?_
  refine j_iload_n C dX3_rise_13 rfl rfl ?_
  obtain ⟨p11, hP⟩ := hP
  refine j_iald (k := 30) (v := (h 30 (a0.toNatClampNeg))) C dX3_rise_14 (W.lt 30 (by decide)) (sh_30 W) p11 (hz_k (by decide)) ?_
  obtain ⟨p13, hP⟩ := hP
  refine j_callV C (MX3_own_oc2 W a0 (h 30 (a0.toNatClampNeg)) (hs h 29 a0.toNatClampNeg 1) p13) dX3_rise_15 (CKX3_own (by decide)) ⟨rfl, rfl⟩ lk_RX3_199 in_X3_own se_X3_own (W.lt 25 (by decide)) (sh_25 W) rfl rfl (Nat.le_of_ble_eq_true rfl) ?_
  intro r S' h' hq
  obtain ⟨e1, e2, e3⟩ := hq
  rw [e1, e2, e3]
  exact RETi_u hR _ _ dX3_rise_18
theorem MX3_rise_oc2 {l0 : Launch} {Y : fj_Y} {ad : Nat → Nat} {n : Nat} {S : ph_S} (W : WS 8 n S) (a0 : Int32) (h : ph_H) (hP : PX3_rise_oc2 a0 h) : MI l0 yX3_rise cX3_rise 2 (some .int) ({ frames := 1, cells := 0, slots := 0, locals := 22 } : Room) Y ad n S h [.ref (ad 25), .int a0] (fun r S' h' => S' = S ∧ h' = (FX3_rise_oc2 a0 h).2 ∧ r = (FX3_rise_oc2 a0 h).1) := met_i (by decide) (Nat.le_of_ble_eq_true rfl) (fun _ _ _ _ => rfl) (fun X C K => j_vl (tX3_rise_oc2 W C a0 h hP (fun pc lv hd => K _ _ _ ⟨rfl, rfl, rfl⟩ pc lv hd)) ⟨rfl, rfl, trivial⟩)

-- X3_go_oc2
def FX3_go_oc2_67  (x1 : Int32) (s0 : Int32) (h : ph_H) : Int32 × ph_H := if s0 = 0 then ((s0, (hs h 28 x1.toNatClampNeg (h 25 13)))) else ((s0, h))
def PX3_go_oc2_67  (x1 : Int32) (s0 : Int32) (h : ph_H) : Prop := (s0 = 0 → (vp_in x1 4 ∧ (True))) ∧ (¬ s0 = 0 → (True))
set_option maxRecDepth 100000 in
set_option maxHeartbeats 4000000 in
theorem tX3_go_oc2_67 {X : fj_X} {Y : fj_Y} {l0 : Launch} {ad : Nat → Nat} {n : Nat} {S : ph_S} (W : WS 8 n S) (C : FC X Y l0 cX3_go 3 RX3 ({ frames := 3, cells := 0, slots := 0, locals := 76 } : Room) 0 0 (some .int)) (x1 : Int32) (s0 : Int32) (h : ph_H) (hP : PX3_go_oc2_67  x1 s0 h) (hR : RETi X Y ad n S cX3_go (FX3_go_oc2_67  x1 s0 h)) : FJ X Y ad n S h 67 [(0, .ref (ad 25)), (1, .int x1)] [.int s0] := by
  unfold PX3_go_oc2_67 at hP
  unfold FX3_go_oc2_67 at hR
  refine j_istore_n C dX3_go_67 rfl (by decide) rfl ?_
  refine j_iload_n C dX3_go_68 rfl rfl ?_
  refine j_if_ne (tgt := 82) C dX3_go_69 (by decide) (fun c0 => ?_) (fun c0 => ?_)
  · have hP := hP.2 c0
    rw [if_neg c0] at hR
    refine j_iload_n C dX3_go_82 rfl rfl ?_
    exact RETi_u hR _ _ dX3_go_83
  · have hP := hP.1 c0
    rw [if_pos c0] at hR
    refine j_aload_n C dX3_go_72 rfl rfl ?_
    refine gCRX3_18 C dX3_go_73 (W.lt 25 (by decide)) (sh_25 W) rfl ?_
    refine j_iload_n C dX3_go_76 rfl rfl ?_
    refine j_aload_n C dX3_go_77 rfl rfl ?_
    refine gCRX3_126 (v := (h 25 13)) C dX3_go_78 (W.lt 25 (by decide)) (sh_25 W) rfl rfl ?_
    obtain ⟨p5, hP⟩ := hP
    refine j_iast (k := 28) C dX3_go_81 (W.lt 28 (by decide)) (sh_28 W) p5 ?_
    refine j_iload_n C dX3_go_82 rfl rfl ?_
    exact RETi_u hR _ _ dX3_go_83
def FX3_go_oc2_59  (x1 : Int32) (s0 : Int32) (h : ph_H) : Int32 × ph_H := FX3_go_oc2_67  x1 s0 h
def PX3_go_oc2_59  (x1 : Int32) (s0 : Int32) (h : ph_H) : Prop := PX3_go_oc2_67  x1 s0 h
set_option maxRecDepth 100000 in
set_option maxHeartbeats 4000000 in
theorem tX3_go_oc2_59 {X : fj_X} {Y : fj_Y} {l0 : Launch} {ad : Nat → Nat} {n : Nat} {S : ph_S} (W : WS 8 n S) (C : FC X Y l0 cX3_go 3 RX3 ({ frames := 3, cells := 0, slots := 0, locals := 76 } : Room) 0 0 (some .int)) (x1 : Int32) (s0 : Int32) (h : ph_H) (hP : PX3_go_oc2_59  x1 s0 h) (hR : RETi X Y ad n S cX3_go (FX3_go_oc2_59  x1 s0 h)) : FJ X Y ad n S h 59 [(0, .ref (ad 25)), (1, .int x1)] [.int s0] := by
  unfold PX3_go_oc2_59 at hP
  unfold FX3_go_oc2_59 at hR
  refine j_goto (tgt := 67) C dX3_go_59 (by decide) ?_
  exact j_vl (tX3_go_oc2_67 W C  x1 s0 h hP hR) ⟨rfl, rfl, trivial⟩
def FX3_go_oc2 (a0 : Int32) (h : ph_H) : Int32 × ph_H := if (FX3_canGo_oc2 a0 h) = 0 then (((-1), h)) else (if (h 29 (a0.toNatClampNeg)) = 3 then (FX3_go_oc2_59  a0 ((FX3_rise_oc2 a0 (hs (hs (hs (hs (hs h 25 14 (-2)) 25 15 (-2)) 25 16 0) 25 17 0) 25 13 ((h 28 (a0.toNatClampNeg)) + 1))).1) ((FX3_rise_oc2 a0 (hs (hs (hs (hs (hs h 25 14 (-2)) 25 15 (-2)) 25 16 0) 25 17 0) 25 13 ((h 28 (a0.toNatClampNeg)) + 1))).2)) else (FX3_go_oc2_67  a0 ((FX3_perform_oc2 a0 (hs (hs (hs (hs (hs h 25 14 (-2)) 25 15 (-2)) 25 16 0) 25 17 0) 25 13 ((h 28 (a0.toNatClampNeg)) + 1))).1) ((FX3_perform_oc2 a0 (hs (hs (hs (hs (hs h 25 14 (-2)) 25 15 (-2)) 25 16 0) 25 17 0) 25 13 ((h 28 (a0.toNatClampNeg)) + 1))).2)))
def PX3_go_oc2 (a0 : Int32) (h : ph_H) : Prop := (PX3_canGo_oc2 a0 h) ∧ (((FX3_canGo_oc2 a0 h) = 0 → (True)) ∧ (¬ (FX3_canGo_oc2 a0 h) = 0 → (vp_in a0 4 ∧ (vp_in a0 4 ∧ (((h 29 (a0.toNatClampNeg)) = 3 → ((PX3_rise_oc2 a0 (hs (hs (hs (hs (hs h 25 14 (-2)) 25 15 (-2)) 25 16 0) 25 17 0) 25 13 ((h 28 (a0.toNatClampNeg)) + 1))) ∧ (PX3_go_oc2_59  a0 ((FX3_rise_oc2 a0 (hs (hs (hs (hs (hs h 25 14 (-2)) 25 15 (-2)) 25 16 0) 25 17 0) 25 13 ((h 28 (a0.toNatClampNeg)) + 1))).1) ((FX3_rise_oc2 a0 (hs (hs (hs (hs (hs h 25 14 (-2)) 25 15 (-2)) 25 16 0) 25 17 0) 25 13 ((h 28 (a0.toNatClampNeg)) + 1))).2)))) ∧ (¬ (h 29 (a0.toNatClampNeg)) = 3 → ((PX3_perform_oc2 a0 (hs (hs (hs (hs (hs h 25 14 (-2)) 25 15 (-2)) 25 16 0) 25 17 0) 25 13 ((h 28 (a0.toNatClampNeg)) + 1))) ∧ (PX3_go_oc2_67  a0 ((FX3_perform_oc2 a0 (hs (hs (hs (hs (hs h 25 14 (-2)) 25 15 (-2)) 25 16 0) 25 17 0) 25 13 ((h 28 (a0.toNatClampNeg)) + 1))).1) ((FX3_perform_oc2 a0 (hs (hs (hs (hs (hs h 25 14 (-2)) 25 15 (-2)) 25 16 0) 25 17 0) 25 13 ((h 28 (a0.toNatClampNeg)) + 1))).2)))))))))
set_option maxRecDepth 100000 in
set_option maxHeartbeats 4000000 in
theorem tX3_go_oc2 {X : fj_X} {Y : fj_Y} {l0 : Launch} {ad : Nat → Nat} {n : Nat} {S : ph_S} (W : WS 8 n S) (C : FC X Y l0 cX3_go 3 RX3 ({ frames := 3, cells := 0, slots := 0, locals := 76 } : Room) 0 0 (some .int)) (a0 : Int32) (h : ph_H) (hP : PX3_go_oc2 a0 h) (hR : RETi X Y ad n S cX3_go (FX3_go_oc2 a0 h)) : FJ X Y ad n S h 0 [(0, .ref (ad 25)), (1, .int a0)] [] := by
  unfold PX3_go_oc2 at hP
  unfold FX3_go_oc2 at hR
  refine j_aload_n C dX3_go_0 rfl rfl ?_
  refine j_iload_n C dX3_go_1 rfl rfl ?_
  obtain ⟨p2, hP⟩ := hP
  refine j_callV C (MX3_canGo_oc2 W a0 h p2) dX3_go_2 (CKX3_canGo (by decide)) ⟨rfl, rfl⟩ lk_RX3_92 in_X3_canGo se_X3_canGo (W.lt 25 (by decide)) (sh_25 W) rfl rfl (Nat.le_of_ble_eq_true rfl) ?_
  intro r S' h' hq
  obtain ⟨e1, hh, e3, hb4⟩ := hq
  rw [e1, hh, e3]
  refine j_if_ne (tgt := 10) C dX3_go_5 (by decide) (fun c0 => ?_) (fun c0 => ?_)
  · have hP := hP.2 c0
    rw [if_neg c0] at hR
    refine j_aload_n C dX3_go_10 rfl rfl ?_
    refine j_bipush (v := (-2)) C dX3_go_11 (by decide) ?_
    refine pCRX3_114 C dX3_go_13 (W.lt 25 (by decide)) (sh_25 W) rfl ?_
    refine j_aload_n C dX3_go_16 rfl rfl ?_
    refine j_bipush (v := (-2)) C dX3_go_17 (by decide) ?_
    refine pCRX3_117 C dX3_go_19 (W.lt 25 (by decide)) (sh_25 W) rfl ?_
    refine j_aload_n C dX3_go_22 rfl rfl ?_
    refine j_iconst (v := 0) C dX3_go_23 (by decide) ?_
    refine pCRX3_120 C dX3_go_24 (W.lt 25 (by decide)) (sh_25 W) rfl ?_
    refine j_aload_n C dX3_go_27 rfl rfl ?_
    refine j_iconst (v := 0) C dX3_go_28 (by decide) ?_
    refine pCRX3_123 C dX3_go_29 (W.lt 25 (by decide)) (sh_25 W) rfl ?_
    refine j_aload_n C dX3_go_32 rfl rfl ?_
    refine j_aload_n C dX3_go_33 rfl rfl ?_
    refine gCRX3_18 C dX3_go_34 (W.lt 25 (by decide)) (sh_25 W) rfl ?_
    refine j_iload_n C dX3_go_37 rfl rfl ?_
    obtain ⟨p16, hP⟩ := hP
    refine j_iald (k := 28) (v := (h 28 (a0.toNatClampNeg))) C dX3_go_38 (W.lt 28 (by decide)) (sh_28 W) p16 ((hz_k (by decide)).trans ((hz_k (by decide)).trans ((hz_k (by decide)).trans (hz_k (by decide))))) ?_
    refine j_iconst (v := 1) C dX3_go_39 (by decide) ?_
    refine j_iadd C dX3_go_40 ?_
    refine pCRX3_126 C dX3_go_41 (W.lt 25 (by decide)) (sh_25 W) rfl ?_
    refine j_aload_n C dX3_go_44 rfl rfl ?_
    refine gCRX3_21 C dX3_go_45 (W.lt 25 (by decide)) (sh_25 W) rfl ?_
    refine j_iload_n C dX3_go_48 rfl rfl ?_
    obtain ⟨p24, hP⟩ := hP
    refine j_iald (k := 29) (v := (h 29 (a0.toNatClampNeg))) C dX3_go_49 (W.lt 29 (by decide)) (sh_29 W) p24 ((hz_k (by decide)).trans ((hz_k (by decide)).trans ((hz_k (by decide)).trans ((hz_k (by decide)).trans (hz_k (by decide)))))) ?_
    refine j_iconst (v := 3) C dX3_go_50 (by decide) ?_
    refine j_icmp_ne (tgt := 62) C dX3_go_51 (by decide) (fun c1 => ?_) (fun c1 => ?_)
    · have hP := hP.2 c1
      rw [if_neg c1] at hR
      refine j_aload_n C dX3_go_62 rfl rfl ?_
      refine j_iload_n C dX3_go_63 rfl rfl ?_
      obtain ⟨p2, hP⟩ := hP
      refine j_callV C (MX3_perform_oc2 W a0 (hs (hs (hs (hs (hs h 25 14 (-2)) 25 15 (-2)) 25 16 0) 25 17 0) 25 13 ((h 28 (a0.toNatClampNeg)) + 1)) p2) dX3_go_64 (CKX3_perform (by decide)) ⟨rfl, rfl⟩ lk_RX3_132 in_X3_perform se_X3_perform (W.lt 25 (by decide)) (sh_25 W) rfl rfl (Nat.le_of_ble_eq_true rfl) ?_
      intro r S' h' hq
      obtain ⟨e1, e2, e3⟩ := hq
      rw [e1, e2, e3]
      exact j_vl (tX3_go_oc2_67 W C  a0 ((FX3_perform_oc2 a0 (hs (hs (hs (hs (hs h 25 14 (-2)) 25 15 (-2)) 25 16 0) 25 17 0) 25 13 ((h 28 (a0.toNatClampNeg)) + 1))).1) ((FX3_perform_oc2 a0 (hs (hs (hs (hs (hs h 25 14 (-2)) 25 15 (-2)) 25 16 0) 25 17 0) 25 13 ((h 28 (a0.toNatClampNeg)) + 1))).2) hP hR) ⟨rfl, rfl, trivial⟩
    · have hP := hP.1 c1
      rw [if_pos c1] at hR
      refine j_aload_n C dX3_go_54 rfl rfl ?_
      refine j_iload_n C dX3_go_55 rfl rfl ?_
      obtain ⟨p2, hP⟩ := hP
      refine j_callV C (MX3_rise_oc2 W a0 (hs (hs (hs (hs (hs h 25 14 (-2)) 25 15 (-2)) 25 16 0) 25 17 0) 25 13 ((h 28 (a0.toNatClampNeg)) + 1)) p2) dX3_go_56 (CKX3_rise (by decide)) ⟨rfl, rfl⟩ lk_RX3_129 in_X3_rise se_X3_rise (W.lt 25 (by decide)) (sh_25 W) rfl rfl (Nat.le_of_ble_eq_true rfl) ?_
      intro r S' h' hq
      obtain ⟨e1, e2, e3⟩ := hq
      rw [e1, e2, e3]
      exact j_vl (tX3_go_oc2_59 W C  a0 ((FX3_rise_oc2 a0 (hs (hs (hs (hs (hs h 25 14 (-2)) 25 15 (-2)) 25 16 0) 25 17 0) 25 13 ((h 28 (a0.toNatClampNeg)) + 1))).1) ((FX3_rise_oc2 a0 (hs (hs (hs (hs (hs h 25 14 (-2)) 25 15 (-2)) 25 16 0) 25 17 0) 25 13 ((h 28 (a0.toNatClampNeg)) + 1))).2) hP hR) ⟨rfl, rfl, trivial⟩
  · have hP := hP.1 c0
    rw [if_pos c0] at hR
    refine j_iconst (v := (-1)) C dX3_go_8 (by decide) ?_
    exact RETi_u hR _ _ dX3_go_9
theorem MX3_go_oc2 {l0 : Launch} {Y : fj_Y} {ad : Nat → Nat} {n : Nat} {S : ph_S} (W : WS 8 n S) (a0 : Int32) (h : ph_H) (hP : PX3_go_oc2 a0 h) : MI l0 yX3_go cX3_go 3 (some .int) ({ frames := 3, cells := 0, slots := 0, locals := 76 } : Room) Y ad n S h [.ref (ad 25), .int a0] (fun r S' h' => S' = S ∧ h' = (FX3_go_oc2 a0 h).2 ∧ r = (FX3_go_oc2 a0 h).1) := met_i (by decide) (Nat.le_of_ble_eq_true rfl) (fun _ _ _ _ => rfl) (fun X C K => j_vl (tX3_go_oc2 W C a0 h hP (fun pc lv hd => K _ _ _ ⟨rfl, rfl, rfl⟩ pc lv hd)) ⟨rfl, rfl, trivial⟩)

-- X11_replay_oc2
def FX11_replay_oc2_33 (L3 : Int32 → Int32 → ph_H → ph_H) (x3 : Int32) (x4 : Int32) (s0 : Int32) (h : ph_H) : ph_H := L3 x3 (x4 + 1) h
def PX11_replay_oc2_33 (LP3 : Int32 → Int32 → ph_H → Prop) (x3 : Int32) (x4 : Int32) (s0 : Int32) (h : ph_H) : Prop := LP3 x3 (x4 + 1) h
set_option maxRecDepth 100000 in
set_option maxHeartbeats 4000000 in
theorem tX11_replay_oc2_33 {X : fj_X} {Y : fj_Y} {l0 : Launch} {ad : Nat → Nat} {n : Nat} {S : ph_S} (W : WS 8 n S) (C : FC X Y l0 cX11_replay 5 RX11 ({ frames := 4, cells := 0, slots := 0, locals := 98 } : Room) 0 0 none) (L3 : Int32 → Int32 → ph_H → ph_H) (LP3 : Int32 → Int32 → ph_H → Prop) (hL3 : ∀ (x3 : Int32) (x4 : Int32) (h : ph_H), LP3 x3 x4 h → RETv X Y ad n S cX11_replay (L3 x3 x4 h) → FJ X Y ad n S h 3 [(0, .ref (ad 0)), (1, .ref (ad 25)), (3, .int x3), (4, .int x4)] []) (x3 : Int32) (x4 : Int32) (s0 : Int32) (h : ph_H) (hP : PX11_replay_oc2_33 LP3 x3 x4 s0 h) (hR : RETv X Y ad n S cX11_replay (FX11_replay_oc2_33 L3 x3 x4 s0 h)) : FJ X Y ad n S h 33 [(0, .ref (ad 0)), (1, .ref (ad 25)), (3, .int x3), (4, .int x4)] [.int s0] := by
  unfold PX11_replay_oc2_33 at hP
  unfold FX11_replay_oc2_33 at hR
  refine j_pop C dX11_replay_33 rfl ?_
  refine j_iinc (v := (x4 + 1)) C dX11_replay_34 rfl rfl (by decide) rfl ?_
  refine j_goto (tgt := 3) C dX11_replay_37 (by decide) ?_
  exact j_vl (hL3 x3 (x4 + 1) h hP hR) ⟨rfl, rfl, rfl, rfl, trivial⟩
def FX11_replay_oc2_3  : Nat → Int32 → Int32 → ph_H → ph_H
  | 0, _, _, h => h
  | q + 1, x3, x4, h => if x3 ≤ x4 then (h) else (if 300 ≤ x4 then (h) else (FX11_replay_oc2_33 (FX11_replay_oc2_3  q) x3 x4 ((FX3_go_oc2 (h 36 ((x4 + 1).toNatClampNeg)) h).1) ((FX3_go_oc2 (h 36 ((x4 + 1).toNatClampNeg)) h).2)))
def PX11_replay_oc2_3  : Nat → Int32 → Int32 → ph_H → Prop
  | 0, _, _, _ => False
  | q + 1, x3, x4, h => (x3 ≤ x4 → (True)) ∧ (¬ x3 ≤ x4 → ((300 ≤ x4 → (True)) ∧ (¬ 300 ≤ x4 → (vp_in (x4 + 1) 301 ∧ ((PX3_go_oc2 (h 36 ((x4 + 1).toNatClampNeg)) h) ∧ (PX11_replay_oc2_33 (PX11_replay_oc2_3  q) x3 x4 ((FX3_go_oc2 (h 36 ((x4 + 1).toNatClampNeg)) h).1) ((FX3_go_oc2 (h 36 ((x4 + 1).toNatClampNeg)) h).2)))))))
set_option maxRecDepth 100000 in
set_option maxHeartbeats 4000000 in
theorem tX11_replay_oc2_3 {X : fj_X} {Y : fj_Y} {l0 : Launch} {ad : Nat → Nat} {n : Nat} {S : ph_S} (W : WS 8 n S) (C : FC X Y l0 cX11_replay 5 RX11 ({ frames := 4, cells := 0, slots := 0, locals := 98 } : Room) 0 0 none) : ∀ (q : Nat) (x3 : Int32) (x4 : Int32) (h : ph_H), PX11_replay_oc2_3  q x3 x4 h → RETv X Y ad n S cX11_replay (FX11_replay_oc2_3  q x3 x4 h) → FJ X Y ad n S h 3 [(0, .ref (ad 0)), (1, .ref (ad 25)), (3, .int x3), (4, .int x4)] [] := by
  intro q
  induction q with
  | zero =>
    intro x3 x4 h hP hR
    exact absurd hP id
  | succ q ih =>
    intro x3 x4 h hP hR
    unfold PX11_replay_oc2_3 at hP
    unfold FX11_replay_oc2_3 at hR
    refine j_iload C dX11_replay_3 rfl ?_
    refine j_iload_n C dX11_replay_5 rfl rfl ?_
    refine j_icmp_ge (tgt := 40) C dX11_replay_6 (by decide) (fun c0 => ?_) (fun c0 => ?_)
    · have hP := hP.1 c0
      rw [if_pos c0] at hR
      exact hR _ _ dX11_replay_40
    · have hP := hP.2 c0
      rw [if_neg c0] at hR
      refine j_iload C dX11_replay_9 rfl ?_
      refine j_sipush (v := 300) C dX11_replay_11 (by decide) ?_
      refine j_icmp_ge (tgt := 40) C dX11_replay_14 (by decide) (fun c1 => ?_) (fun c1 => ?_)
      · have hP := hP.1 c1
        rw [if_pos c1] at hR
        exact hR _ _ dX11_replay_40
      · have hP := hP.2 c1
        rw [if_neg c1] at hR
        refine j_aload_n C dX11_replay_17 rfl rfl ?_
        refine j_aload_n C dX11_replay_18 rfl rfl ?_
        refine gCRX11_34 C dX11_replay_19 (W.lt 0 (by decide)) (sh_0 W) rfl ?_
        refine gCRX11_154 C dX11_replay_22 (W.lt 35 (by decide)) (sh_35 W) rfl ?_
        refine j_iload C dX11_replay_25 rfl ?_
        refine j_iconst (v := 1) C dX11_replay_27 (by decide) ?_
        refine j_iadd C dX11_replay_28 ?_
        obtain ⟨p7, hP⟩ := hP
        refine j_iald (k := 36) (v := (h 36 ((x4 + 1).toNatClampNeg))) C dX11_replay_29 (W.lt 36 (by decide)) (sh_36 W) p7 rfl ?_
        obtain ⟨p9, hP⟩ := hP
        refine j_callV C (MX3_go_oc2 W (h 36 ((x4 + 1).toNatClampNeg)) h p9) dX11_replay_30 (CKX3_go (by decide)) ⟨rfl, rfl⟩ lk_RX11_355 in_X3_go se_X3_go (W.lt 25 (by decide)) (sh_25 W) rfl rfl (Nat.le_of_ble_eq_true rfl) ?_
        intro r S' h' hq
        obtain ⟨e1, e2, e3⟩ := hq
        rw [e1, e2, e3]
        exact j_vl (tX11_replay_oc2_33 W C (FX11_replay_oc2_3  q) (PX11_replay_oc2_3  q) (ih) x3 x4 ((FX3_go_oc2 (h 36 ((x4 + 1).toNatClampNeg)) h).1) ((FX3_go_oc2 (h 36 ((x4 + 1).toNatClampNeg)) h).2) hP hR) ⟨rfl, rfl, rfl, rfl, trivial⟩
def FX11_replay_oc2 (a1 : Int32) (a2 : Int32) (h : ph_H) : ph_H := FX11_replay_oc2_3 2000 a2 a1 h
def PX11_replay_oc2 (a1 : Int32) (a2 : Int32) (h : ph_H) : Prop := PX11_replay_oc2_3 2000 a2 a1 h
set_option maxRecDepth 100000 in
set_option maxHeartbeats 4000000 in
theorem tX11_replay_oc2 {X : fj_X} {Y : fj_Y} {l0 : Launch} {ad : Nat → Nat} {n : Nat} {S : ph_S} (W : WS 8 n S) (C : FC X Y l0 cX11_replay 5 RX11 ({ frames := 4, cells := 0, slots := 0, locals := 98 } : Room) 0 0 none) (a1 : Int32) (a2 : Int32) (h : ph_H) (hP : PX11_replay_oc2 a1 a2 h) (hR : RETv X Y ad n S cX11_replay (FX11_replay_oc2 a1 a2 h)) : FJ X Y ad n S h 0 [(0, .ref (ad 0)), (1, .ref (ad 25)), (2, .int a1), (3, .int a2)] [] := by
  unfold PX11_replay_oc2 at hP
  unfold FX11_replay_oc2 at hR
  refine j_iload_n C dX11_replay_0 rfl rfl ?_
  refine j_istore C dX11_replay_1 (by decide) rfl ?_
  exact j_vl (tX11_replay_oc2_3 W C 2000 a2 a1 h hP hR) ⟨rfl, rfl, rfl, rfl, trivial⟩
theorem MX11_replay_oc2 {l0 : Launch} {Y : fj_Y} {ad : Nat → Nat} {n : Nat} {S : ph_S} (W : WS 8 n S) (a1 : Int32) (a2 : Int32) (h : ph_H) (hP : PX11_replay_oc2 a1 a2 h) : MV l0 yX11_replay cX11_replay 5 ({ frames := 4, cells := 0, slots := 0, locals := 98 } : Room) Y ad n S h [.ref (ad 0), .ref (ad 25), .int a1, .int a2] (fun S' h' => S' = S ∧ h' = FX11_replay_oc2 a1 a2 h) := met_v (by decide) (Nat.le_of_ble_eq_true rfl) (fun X C K => j_vl (tX11_replay_oc2 W C a1 a2 h hP (fun pc lv hd => K _ _ ⟨rfl, rfl⟩ pc lv hd)) ⟨rfl, rfl, rfl, rfl, trivial⟩)
