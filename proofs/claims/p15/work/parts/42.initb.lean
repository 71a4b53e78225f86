/-! THE BOX'S CONSTRUCTOR: places in the order in which they are made -/
def SI (k : Nat) : ph_E := match k with
  | 0 => .inr (.inl (10, 13, rfL [(7, 59), (6, 52), (5, 47), (4, 35), (3, 25), (2, 15), (1, 8), (0, 1)] []))
  | 1 => .inr (.inl (4, 8, rfL [(5, 7), (4, 6), (3, 5), (2, 4), (1, 3), (0, 2)] []))
  | 2 => .inl (0, 4)
  | 3 => .inl (0, 384)
  | 4 => .inl (0, 12)
  | 5 => .inl (0, 30)
  | 6 => .inl (0, 40)
  | 7 => .inl (0, 40)
  | 8 => .inr (.inl (4, 8, rfL [(5, 14), (4, 13), (3, 12), (2, 11), (1, 10), (0, 9)] []))
  | 9 => .inl (0, 4)
  | 10 => .inl (0, 384)
  | 11 => .inl (0, 12)
  | 12 => .inl (0, 30)
  | 13 => .inl (0, 40)
  | 14 => .inl (0, 40)
  | 15 => .inr (.inl (2, 18, rfL [(9, 8), (8, 24), (7, 23), (6, 22), (5, 21), (4, 20), (3, 19), (2, 18), (1, 17), (0, 16)] []))
  | 16 => .inl (0, 28)
  | 17 => .inl (0, 28)
  | 18 => .inl (0, 4)
  | 19 => .inl (0, 4)
  | 20 => .inl (0, 4)
  | 21 => .inl (0, 12)
  | 22 => .inl (0, 12)
  | 23 => .inl (0, 12)
  | 24 => .inl (0, 192)
  | 25 => .inr (.inl (2, 18, rfL [(9, 1), (8, 34), (7, 33), (6, 32), (5, 31), (4, 30), (3, 29), (2, 28), (1, 27), (0, 26)] []))
  | 26 => .inl (0, 28)
  | 27 => .inl (0, 28)
  | 28 => .inl (0, 4)
  | 29 => .inl (0, 4)
  | 30 => .inl (0, 4)
  | 31 => .inl (0, 12)
  | 32 => .inl (0, 12)
  | 33 => .inl (0, 12)
  | 34 => .inl (0, 192)
  | 35 => .inr (.inl (9, 17, rfL [(10, 46), (9, 45), (8, 44), (7, 43), (6, 42), (5, 41), (4, 40), (3, 39), (2, 38), (1, 37), (0, 36)] []))
  | 36 => .inl (0, 301)
  | 37 => .inl (0, 301)
  | 38 => .inl (0, 301)
  | 39 => .inl (0, 301)
  | 40 => .inl (0, 301)
  | 41 => .inl (0, 301)
  | 42 => .inl (0, 301)
  | 43 => .inl (0, 301)
  | 44 => .inl (0, 301)
  | 45 => .inl (0, 300)
  | 46 => .inl (0, 300)
  | 47 => .inr (.inl (3, 7, rfL [(0, 35), (4, 51), (3, 50), (2, 49), (1, 48)] []))
  | 48 => .inl (0, 1204)
  | 49 => .inl (0, 16)
  | 50 => .inl (0, 48)
  | 51 => .inl (0, 301)
  | 52 => .inr (.inl (5, 11, rfL [(1, 25), (0, 1), (5, 58), (4, 57), (3, 56), (2, 53)] []))
  | 53 => .inr (.inr (4, 2, fun i => if i < 2 then some (53 + 1 + i) else none))
  | 54 => .inl (0, 300)
  | 55 => .inl (0, 300)
  | 56 => .inl (0, 2)
  | 57 => .inl (0, 2)
  | 58 => .inl (0, 2)
  | 59 => .inr (.inr (3, 8, fun _ => none))
  | _ => .inl (0, 0)
theorem FE_g {X : fj_X} {a b : Nat} (E : FE X) : FE (xg X a b) := E
theorem FN_g {X : fj_X} {a b : Nat} {m : String} (E : FN X m) : FN (xg X a b) m := E
def h00 : ph_H := fun _ _ => 0
section INITB
variable {l0 : Launch} {Y : fj_Y} {ad : Nat → Nat}
set_option maxRecDepth 100000 in
set_option maxHeartbeats 4000000 in
theorem GX11_init : GM l0 yX11_init (.code yX11_init cX11_init 1 none) (mkR 2 59 7193 40) Y ad 1 (va_up SI 0 (.inr (.inl (10, 13, rfL [] [0, 1, 2, 3, 4, 5, 6, 7])))) h00 [.ref (ad 0)] (gQv Y ad 1 (va_up SI 0 (.inr (.inl (10, 13, rfL [] [0, 1, 2, 3, 4, 5, 6, 7])))) h00 (fun u => ∃ ad', u = (60, ad', SI, hs h00 0 12 (-2)) ∧ ad' 0 = ad 0)) := met_gv (by decide) (Nat.le_of_ble_eq_true rfl) (fun X C E N K => by
  refine j_vl (lv' := [(0, .ref (ad 0))]) ?_ ⟨rfl, trivial⟩
  have hc0 : clS 1 (va_up SI 0 (.inr (.inl (10, 13, rfL [] [0, 1, 2, 3, 4, 5, 6, 7])))) := fun k hk => by
    have e : k = 0 := by omega
    subst e
    rw [va_up_self]
    exact rfL_null
  refine j_aload_n C dX11_init_0 rfl rfl ?_
  refine j_objInit C dX11_init_1 lo_RX11_3 oi_i oi_c (by decide) (by decide) ?_
  refine j_aload_n C dX11_init_4 rfl rfl ?_
  refine j_newS (ci := 4) (todo := [0, 1, 2, 3, 4, 5]) (T := TX5) C dX11_init_5 rfl inX5 tyX5_ok cl_RX11_9 is_X5 iz_X5 (by decide +kernel) rfl hc0 (by decide) (by decide) (fun ad1 hA1 hc1 => ?_)
  rw [← hA1 0 (by decide)]
  have C1 := C.g (a := 1) (b := 8) (by decide) (by decide)
  have E1 := FE_g (a := 1) (b := 8) E
  have N1 := FN_g (a := 1) (b := 8) N
  refine j_dup C1 dX11_init_8 rfl ?_
  refine j_gv C1 (gr_IN (host := "ReplayBox") (b := ad1 1) (av := []) C1 E1 (GX5_init (k0 := 1) (by decide) (va_up_self ..) hc1 rfl rfl rfl rfl rfl rfl (fun _ _ => rfl)) dX11_init_9 (CKX5_init (by decide)) ⟨by decide, by decide⟩ (by decide +kernel) in_X5_init rfl rfl (Nat.le_of_ble_eq_true rfl)) ?_
  rintro u ⟨ad2, rfl, hA2, hc2⟩
  have eS2 : va_up (va_up (va_up SI 0 (.inr (.inl (10, 13, rfL [] [0, 1, 2, 3, 4, 5, 6, 7])))) 1 (.inr (.inl (4, 8, rfL [] [0, 1, 2, 3, 4, 5])))) 1 (.inr (.inl (4, 8, rfL [(5, 7), (4, 6), (3, 5), (2, 4), (1, 3), (0, 2)] []))) = va_up SI 0 (.inr (.inl (10, 13, rfL [] [0, 1, 2, 3, 4, 5, 6, 7]))) := va_up2.trans (va_up_id rfl)
  have hc2 : clS 8 (va_up SI 0 (.inr (.inl (10, 13, rfL [] [0, 1, 2, 3, 4, 5, 6, 7])))) := by rw [← eS2]; exact hc2
  rw [← hA2 0 (by decide), ← hA2 1 (by decide)]
  have C2 := C1.g (a := 6) (b := 510) (by decide) (by decide)
  have E2 := FE_g (a := 6) (b := 510) E1
  have N2 := FN_g (a := 6) (b := 510) N1
  refine (show FJ _ Y ad2 8 (va_up SI 0 (.inr (.inl (10, 13, rfL [] [0, 1, 2, 3, 4, 5, 6, 7])))) h00 _ _ _ → _ from fun q => by rw [← eS2] at q; exact q) ?_
  refine j_putFr (j := 0) (r := 1) (ty := .object "ReplayBox$Program") C2 N2 dX11_init_12 (by decide) (va_up_self ..) rfl inX11 tyX11_ok nmX11 (by decide) lfRX11_12 rfl rfl rfl (by decide +kernel) (fun _ => rfl) (fun _ => rfl) ?_
  rw [rfL_put, va_up2]
  have hc2 := hc2.set (k := 0) (rfL_cl0 (j := 0) (r := 1) (by have q := hc2 0 (by decide); rw [va_up_self] at q; exact q) (by decide))
  rw [va_up2] at hc2
  refine j_aload_n C2 dX11_init_15 rfl rfl ?_
  refine j_newS (ci := 4) (todo := [0, 1, 2, 3, 4, 5]) (T := TX5) C2 dX11_init_16 rfl inX5 tyX5_ok cl_RX11_9 is_X5 iz_X5 (by decide +kernel) rfl hc2 (by decide) (by decide) (fun ad3 hA3 hc3 => ?_)
  rw [← hA3 0 (by decide)]
  have C3 := C2.g (a := 1) (b := 8) (by decide) (by decide)
  have E3 := FE_g (a := 1) (b := 8) E2
  have N3 := FN_g (a := 1) (b := 8) N2
  refine j_dup C3 dX11_init_19 rfl ?_
  refine j_gv C3 (gr_IN (host := "ReplayBox") (b := ad3 8) (av := []) C3 E3 (GX5_init (k0 := 8) (by decide) (va_up_self ..) hc3 rfl rfl rfl rfl rfl rfl (fun _ _ => rfl)) dX11_init_20 (CKX5_init (by decide)) ⟨by decide, by decide⟩ (by decide +kernel) in_X5_init rfl rfl (Nat.le_of_ble_eq_true rfl)) ?_
  rintro u ⟨ad4, rfl, hA4, hc4⟩
  have eS4 : va_up (va_up (va_up SI 0 (.inr (.inl (10, 13, rfL [(0, 1)] [1, 2, 3, 4, 5, 6, 7])))) 8 (.inr (.inl (4, 8, rfL [] [0, 1, 2, 3, 4, 5])))) 8 (.inr (.inl (4, 8, rfL [(5, 14), (4, 13), (3, 12), (2, 11), (1, 10), (0, 9)] []))) = va_up SI 0 (.inr (.inl (10, 13, rfL [(0, 1)] [1, 2, 3, 4, 5, 6, 7]))) := va_up2.trans (va_up_id rfl)
  have hc4 : clS 15 (va_up SI 0 (.inr (.inl (10, 13, rfL [(0, 1)] [1, 2, 3, 4, 5, 6, 7])))) := by rw [← eS4]; exact hc4
  rw [← hA4 0 (by decide), ← hA4 8 (by decide)]
  have C4 := C3.g (a := 6) (b := 510) (by decide) (by decide)
  have E4 := FE_g (a := 6) (b := 510) E3
  have N4 := FN_g (a := 6) (b := 510) N3
  refine (show FJ _ Y ad4 15 (va_up SI 0 (.inr (.inl (10, 13, rfL [(0, 1)] [1, 2, 3, 4, 5, 6, 7])))) h00 _ _ _ → _ from fun q => by rw [← eS4] at q; exact q) ?_
  refine j_putFr (j := 1) (r := 8) (ty := .object "ReplayBox$Program") C4 N4 dX11_init_23 (by decide) (va_up_self ..) rfl inX11 tyX11_ok nmX11 (by decide) lfRX11_16 rfl rfl rfl (by decide +kernel) (fun _ => rfl) (fun _ => rfl) ?_
  rw [rfL_put, va_up2]
  have hc4 := hc4.set (k := 0) (rfL_cl0 (j := 1) (r := 8) (by have q := hc4 0 (by decide); rw [va_up_self] at q; exact q) (by decide))
  rw [va_up2] at hc4
  refine j_aload_n C4 dX11_init_26 rfl rfl ?_
  refine j_newS (ci := 2) (todo := [0, 1, 2, 3, 4, 5, 6, 7, 8, 9]) (T := TX3) C4 dX11_init_27 rfl inX3 tyX3_ok cl_RX11_19 is_X3 iz_X3 (by decide +kernel) rfl hc4 (by decide) (by decide) (fun ad5 hA5 hc5 => ?_)
  rw [← hA5 0 (by decide)]
  have C5 := C4.g (a := 1) (b := 18) (by decide) (by decide)
  have E5 := FE_g (a := 1) (b := 18) E4
  have N5 := FN_g (a := 1) (b := 18) N4
  refine j_dup C5 dX11_init_30 rfl ?_
  refine j_aload_n C5 dX11_init_31 rfl rfl ?_
  refine gCRX11_16 (rf := rfL [(1, 8), (0, 1)] [2, 3, 4, 5, 6, 7]) (r := 8) C5 dX11_init_32 (by decide) rfl rfl ?_
  refine j_gv C5 (gr_I (b := ad5 15) (av := [.ref (ad5 8)]) C5 E5 (GX3_init (k0 := 15) (pp := 8) (by decide) (by decide) (va_up_self ..) hc5 rfl rfl rfl rfl rfl rfl rfl rfl rfl (fun _ _ => rfl)) dX11_init_35 (CKX3_init (by decide)) ⟨by decide, by decide⟩ lk_RX11_21 in_X3_init rfl rfl (Nat.le_of_ble_eq_true rfl)) ?_
  rintro u ⟨ad6, rfl, hA6, hc6⟩
  have eS6 : va_up (va_up (va_up SI 0 (.inr (.inl (10, 13, rfL [(1, 8), (0, 1)] [2, 3, 4, 5, 6, 7])))) 15 (.inr (.inl (2, 18, rfL [] [0, 1, 2, 3, 4, 5, 6, 7, 8, 9])))) 15 (.inr (.inl (2, 18, rfL [(9, 8), (8, 24), (7, 23), (6, 22), (5, 21), (4, 20), (3, 19), (2, 18), (1, 17), (0, 16)] []))) = va_up SI 0 (.inr (.inl (10, 13, rfL [(1, 8), (0, 1)] [2, 3, 4, 5, 6, 7]))) := va_up2.trans (va_up_id rfl)
  have hc6 : clS 25 (va_up SI 0 (.inr (.inl (10, 13, rfL [(1, 8), (0, 1)] [2, 3, 4, 5, 6, 7])))) := by rw [← eS6]; exact hc6
  rw [← hA6 0 (by decide), ← hA6 15 (by decide)]
  have C6 := C5.g (a := 9) (b := 296) (by decide) (by decide)
  have E6 := FE_g (a := 9) (b := 296) E5
  have N6 := FN_g (a := 9) (b := 296) N5
  refine (show FJ _ Y ad6 25 (va_up SI 0 (.inr (.inl (10, 13, rfL [(1, 8), (0, 1)] [2, 3, 4, 5, 6, 7])))) h00 _ _ _ → _ from fun q => by rw [← eS6] at q; exact q) ?_
  refine j_putFr (j := 2) (r := 15) (ty := .object "ReplayBox$Machine") C6 N6 dX11_init_38 (by decide) (va_up_self ..) rfl inX11 tyX11_ok nmX11 (by decide) lfRX11_24 rfl rfl rfl (by decide +kernel) (fun _ => rfl) (fun _ => rfl) ?_
  rw [rfL_put, va_up2]
  have hc6 := hc6.set (k := 0) (rfL_cl0 (j := 2) (r := 15) (by have q := hc6 0 (by decide); rw [va_up_self] at q; exact q) (by decide))
  rw [va_up2] at hc6
  refine j_aload_n C6 dX11_init_41 rfl rfl ?_
  refine j_newS (ci := 2) (todo := [0, 1, 2, 3, 4, 5, 6, 7, 8, 9]) (T := TX3) C6 dX11_init_42 rfl inX3 tyX3_ok cl_RX11_19 is_X3 iz_X3 (by decide +kernel) rfl hc6 (by decide) (by decide) (fun ad7 hA7 hc7 => ?_)
  rw [← hA7 0 (by decide)]
  have C7 := C6.g (a := 1) (b := 18) (by decide) (by decide)
  have E7 := FE_g (a := 1) (b := 18) E6
  have N7 := FN_g (a := 1) (b := 18) N6
  refine j_dup C7 dX11_init_45 rfl ?_
  refine j_aload_n C7 dX11_init_46 rfl rfl ?_
  refine gCRX11_12 (rf := rfL [(2, 15), (1, 8), (0, 1)] [3, 4, 5, 6, 7]) (r := 1) C7 dX11_init_47 (by decide) rfl rfl ?_
  refine j_gv C7 (gr_I (b := ad7 25) (av := [.ref (ad7 1)]) C7 E7 (GX3_init (k0 := 25) (pp := 1) (by decide) (by decide) (va_up_self ..) hc7 rfl rfl rfl rfl rfl rfl rfl rfl rfl (fun _ _ => rfl)) dX11_init_50 (CKX3_init (by decide)) ⟨by decide, by decide⟩ lk_RX11_21 in_X3_init rfl rfl (Nat.le_of_ble_eq_true rfl)) ?_
  rintro u ⟨ad8, rfl, hA8, hc8⟩
  have eS8 : va_up (va_up (va_up SI 0 (.inr (.inl (10, 13, rfL [(2, 15), (1, 8), (0, 1)] [3, 4, 5, 6, 7])))) 25 (.inr (.inl (2, 18, rfL [] [0, 1, 2, 3, 4, 5, 6, 7, 8, 9])))) 25 (.inr (.inl (2, 18, rfL [(9, 1), (8, 34), (7, 33), (6, 32), (5, 31), (4, 30), (3, 29), (2, 28), (1, 27), (0, 26)] []))) = va_up SI 0 (.inr (.inl (10, 13, rfL [(2, 15), (1, 8), (0, 1)] [3, 4, 5, 6, 7]))) := va_up2.trans (va_up_id rfl)
  have hc8 : clS 35 (va_up SI 0 (.inr (.inl (10, 13, rfL [(2, 15), (1, 8), (0, 1)] [3, 4, 5, 6, 7])))) := by rw [← eS8]; exact hc8
  rw [← hA8 0 (by decide), ← hA8 25 (by decide)]
  have C8 := C7.g (a := 9) (b := 296) (by decide) (by decide)
  have E8 := FE_g (a := 9) (b := 296) E7
  have N8 := FN_g (a := 9) (b := 296) N7
  refine (show FJ _ Y ad8 35 (va_up SI 0 (.inr (.inl (10, 13, rfL [(2, 15), (1, 8), (0, 1)] [3, 4, 5, 6, 7])))) h00 _ _ _ → _ from fun q => by rw [← eS8] at q; exact q) ?_
  refine j_putFr (j := 3) (r := 25) (ty := .object "ReplayBox$Machine") C8 N8 dX11_init_53 (by decide) (va_up_self ..) rfl inX11 tyX11_ok nmX11 (by decide) lfRX11_28 rfl rfl rfl (by decide +kernel) (fun _ => rfl) (fun _ => rfl) ?_
  rw [rfL_put, va_up2]
  have hc8 := hc8.set (k := 0) (rfL_cl0 (j := 3) (r := 25) (by have q := hc8 0 (by decide); rw [va_up_self] at q; exact q) (by decide))
  rw [va_up2] at hc8
  refine j_aload_n C8 dX11_init_56 rfl rfl ?_
  refine j_newS (ci := 9) (todo := [0, 1, 2, 3, 4, 5, 6, 7, 8, 9, 10]) (T := TX10) C8 dX11_init_57 rfl inX10 tyX10_ok cl_RX11_31 is_X10 iz_X10 (by decide +kernel) rfl hc8 (by decide) (by decide) (fun ad9 hA9 hc9 => ?_)
  rw [← hA9 0 (by decide)]
  have C9 := C8.g (a := 1) (b := 17) (by decide) (by decide)
  have E9 := FE_g (a := 1) (b := 17) E8
  have N9 := FN_g (a := 1) (b := 17) N8
  refine j_dup C9 dX11_init_60 rfl ?_
  refine j_gv C9 (gr_IN (host := "ReplayBox") (b := ad9 35) (av := []) C9 E9 (GX10_init (k0 := 35) (by decide) (va_up_self ..) hc9 rfl rfl rfl rfl rfl rfl rfl rfl rfl rfl rfl (fun _ _ => rfl)) dX11_init_61 (CKX10_init (by decide)) ⟨by decide, by decide⟩ (by decide +kernel) in_X10_init rfl rfl (Nat.le_of_ble_eq_true rfl)) ?_
  rintro u ⟨ad10, rfl, hA10, hc10⟩
  have eS10 : va_up (va_up (va_up SI 0 (.inr (.inl (10, 13, rfL [(3, 25), (2, 15), (1, 8), (0, 1)] [4, 5, 6, 7])))) 35 (.inr (.inl (9, 17, rfL [] [0, 1, 2, 3, 4, 5, 6, 7, 8, 9, 10])))) 35 (.inr (.inl (9, 17, rfL [(10, 46), (9, 45), (8, 44), (7, 43), (6, 42), (5, 41), (4, 40), (3, 39), (2, 38), (1, 37), (0, 36)] []))) = va_up SI 0 (.inr (.inl (10, 13, rfL [(3, 25), (2, 15), (1, 8), (0, 1)] [4, 5, 6, 7]))) := va_up2.trans (va_up_id rfl)
  have hc10 : clS 47 (va_up SI 0 (.inr (.inl (10, 13, rfL [(3, 25), (2, 15), (1, 8), (0, 1)] [4, 5, 6, 7])))) := by rw [← eS10]; exact hc10
  rw [← hA10 0 (by decide), ← hA10 35 (by decide)]
  have C10 := C9.g (a := 11) (b := 3309) (by decide) (by decide)
  have E10 := FE_g (a := 11) (b := 3309) E9
  have N10 := FN_g (a := 11) (b := 3309) N9
  refine (show FJ _ Y ad10 47 (va_up SI 0 (.inr (.inl (10, 13, rfL [(3, 25), (2, 15), (1, 8), (0, 1)] [4, 5, 6, 7])))) h00 _ _ _ → _ from fun q => by rw [← eS10] at q; exact q) ?_
  refine j_putFr (j := 4) (r := 35) (ty := .object "ReplayBox$Trace") C10 N10 dX11_init_64 (by decide) (va_up_self ..) rfl inX11 tyX11_ok nmX11 (by decide) lfRX11_34 rfl rfl rfl (by decide +kernel) (fun _ => rfl) (fun _ => rfl) ?_
  rw [rfL_put, va_up2]
  have hc10 := hc10.set (k := 0) (rfL_cl0 (j := 4) (r := 35) (by have q := hc10 0 (by decide); rw [va_up_self] at q; exact q) (by decide))
  rw [va_up2] at hc10
  refine j_aload_n C10 dX11_init_67 rfl rfl ?_
  refine j_newS (ci := 3) (todo := [1, 2, 3, 4, 0]) (T := TX4) C10 dX11_init_68 rfl inX4 tyX4_ok cl_RX11_38 is_X4 iz_X4 (by decide +kernel) rfl hc10 (by decide) (by decide) (fun ad11 hA11 hc11 => ?_)
  rw [← hA11 0 (by decide)]
  have C11 := C10.g (a := 1) (b := 7) (by decide) (by decide)
  have E11 := FE_g (a := 1) (b := 7) E10
  have N11 := FN_g (a := 1) (b := 7) N10
  refine j_dup C11 dX11_init_71 rfl ?_
  refine j_aload_n C11 dX11_init_72 rfl rfl ?_
  refine gCRX11_34 (rf := rfL [(4, 35), (3, 25), (2, 15), (1, 8), (0, 1)] [5, 6, 7]) (r := 35) C11 dX11_init_73 (by decide) rfl rfl ?_
  refine j_gv C11 (gr_I (b := ad11 47) (av := [.ref (ad11 35)]) C11 E11 (GX4_init (k0 := 47) (pp := 35) (by decide) (by decide) (va_up_self ..) hc11 rfl rfl rfl rfl (fun _ _ => rfl)) dX11_init_76 (CKX4_init (by decide)) ⟨by decide, by decide⟩ lk_RX11_40 in_X4_init rfl rfl (Nat.le_of_ble_eq_true rfl)) ?_
  rintro u ⟨ad12, rfl, hA12, hc12⟩
  have eS12 : va_up (va_up (va_up SI 0 (.inr (.inl (10, 13, rfL [(4, 35), (3, 25), (2, 15), (1, 8), (0, 1)] [5, 6, 7])))) 47 (.inr (.inl (3, 7, rfL [] [1, 2, 3, 4, 0])))) 47 (.inr (.inl (3, 7, rfL [(0, 35), (4, 51), (3, 50), (2, 49), (1, 48)] []))) = va_up SI 0 (.inr (.inl (10, 13, rfL [(4, 35), (3, 25), (2, 15), (1, 8), (0, 1)] [5, 6, 7]))) := va_up2.trans (va_up_id rfl)
  have hc12 : clS 52 (va_up SI 0 (.inr (.inl (10, 13, rfL [(4, 35), (3, 25), (2, 15), (1, 8), (0, 1)] [5, 6, 7])))) := by rw [← eS12]; exact hc12
  rw [← hA12 0 (by decide), ← hA12 47 (by decide)]
  have C12 := C11.g (a := 4) (b := 1569) (by decide) (by decide)
  have E12 := FE_g (a := 4) (b := 1569) E11
  have N12 := FN_g (a := 4) (b := 1569) N11
  refine (show FJ _ Y ad12 52 (va_up SI 0 (.inr (.inl (10, 13, rfL [(4, 35), (3, 25), (2, 15), (1, 8), (0, 1)] [5, 6, 7])))) h00 _ _ _ → _ from fun q => by rw [← eS12] at q; exact q) ?_
  refine j_putFr (j := 5) (r := 47) (ty := .object "ReplayBox$Order") C12 N12 dX11_init_79 (by decide) (va_up_self ..) rfl inX11 tyX11_ok nmX11 (by decide) lfRX11_43 rfl rfl rfl (by decide +kernel) (fun _ => rfl) (fun _ => rfl) ?_
  rw [rfL_put, va_up2]
  have hc12 := hc12.set (k := 0) (rfL_cl0 (j := 5) (r := 47) (by have q := hc12 0 (by decide); rw [va_up_self] at q; exact q) (by decide))
  rw [va_up2] at hc12
  refine j_aload_n C12 dX11_init_82 rfl rfl ?_
  refine j_newS (ci := 5) (todo := [2, 3, 4, 5, 0, 1]) (T := TX6) C12 dX11_init_83 rfl inX6 tyX6_ok cl_RX11_47 is_X6 iz_X6 (by decide +kernel) rfl hc12 (by decide) (by decide) (fun ad13 hA13 hc13 => ?_)
  rw [← hA13 0 (by decide)]
  have C13 := C12.g (a := 1) (b := 11) (by decide) (by decide)
  have E13 := FE_g (a := 1) (b := 11) E12
  have N13 := FN_g (a := 1) (b := 11) N12
  refine j_dup C13 dX11_init_86 rfl ?_
  refine j_aload_n C13 dX11_init_87 rfl rfl ?_
  refine gCRX11_12 (rf := rfL [(5, 47), (4, 35), (3, 25), (2, 15), (1, 8), (0, 1)] [6, 7]) (r := 1) C13 dX11_init_88 (by decide) rfl rfl ?_
  refine j_aload_n C13 dX11_init_91 rfl rfl ?_
  refine gCRX11_28 (rf := rfL [(5, 47), (4, 35), (3, 25), (2, 15), (1, 8), (0, 1)] [6, 7]) (r := 25) C13 dX11_init_92 (by decide) rfl rfl ?_
  refine j_gv C13 (gr_I (b := ad13 52) (av := [.ref (ad13 1), .ref (ad13 25)]) C13 E13 (GX6_init (k0 := 52) (pp := 1) (pq := 25) (by decide) (by decide) (by decide) (va_up_self ..) hc13 rfl rfl rfl rfl rfl rfl (fun _ _ => rfl)) dX11_init_95 (CKX6_init (by decide)) ⟨by decide, by decide⟩ lk_RX11_49 in_X6_init rfl rfl (Nat.le_of_ble_eq_true rfl)) ?_
  rintro u ⟨ad14, rfl, hA14, hc14⟩
  have eS14 : va_up (va_up (va_up SI 0 (.inr (.inl (10, 13, rfL [(5, 47), (4, 35), (3, 25), (2, 15), (1, 8), (0, 1)] [6, 7])))) 52 (.inr (.inl (5, 11, rfL [] [2, 3, 4, 5, 0, 1])))) 52 (.inr (.inl (5, 11, rfL [(1, 25), (0, 1), (5, 58), (4, 57), (3, 56), (2, 53)] []))) = va_up SI 0 (.inr (.inl (10, 13, rfL [(5, 47), (4, 35), (3, 25), (2, 15), (1, 8), (0, 1)] [6, 7]))) := va_up2.trans (va_up_id rfl)
  have hc14 : clS 59 (va_up SI 0 (.inr (.inl (10, 13, rfL [(5, 47), (4, 35), (3, 25), (2, 15), (1, 8), (0, 1)] [6, 7])))) := by rw [← eS14]; exact hc14
  rw [← hA14 0 (by decide), ← hA14 52 (by decide)]
  have C14 := C13.g (a := 6) (b := 608) (by decide) (by decide)
  have E14 := FE_g (a := 6) (b := 608) E13
  have N14 := FN_g (a := 6) (b := 608) N13
  refine (show FJ _ Y ad14 59 (va_up SI 0 (.inr (.inl (10, 13, rfL [(5, 47), (4, 35), (3, 25), (2, 15), (1, 8), (0, 1)] [6, 7])))) h00 _ _ _ → _ from fun q => by rw [← eS14] at q; exact q) ?_
  refine j_putFr (j := 6) (r := 52) (ty := .object "ReplayBox$Search") C14 N14 dX11_init_98 (by decide) (va_up_self ..) rfl inX11 tyX11_ok nmX11 (by decide) lfRX11_52 rfl rfl rfl (by decide +kernel) (fun _ => rfl) (fun _ => rfl) ?_
  rw [rfL_put, va_up2]
  have hc14 := hc14.set (k := 0) (rfL_cl0 (j := 6) (r := 52) (by have q := hc14 0 (by decide); rw [va_up_self] at q; exact q) (by decide))
  rw [va_up2] at hc14
  refine j_aload_n C14 dX11_init_101 rfl rfl ?_
  refine j_bipush (v := 8) C14 dX11_init_102 (by decide) ?_
  refine j_newq (N := 8) C14 E14 dX11_init_104 cl_RX11_56 (by decide) hc14 rfl rfl (by decide) (by decide) (fun ad15 hA15 => ?_)
  rw [← hA15 0 (by decide)]
  have C15 := C14.g (a := 1) (b := 8) (by decide) (by decide)
  have E15 := FE_g (a := 1) (b := 8) E14
  have N15 := FN_g (a := 1) (b := 8) N14
  have hc15 : clS 60 (va_up SI 0 (.inr (.inl (10, 13, rfL [(6, 52), (5, 47), (4, 35), (3, 25), (2, 15), (1, 8), (0, 1)] [7])))) := fun k hk => by
    by_cases e : k = 59
    · subst e
      exact fun i r q => nomatch q
    · exact (hc14 k (by omega)).mono (by decide)
  refine j_putFr (j := 7) (r := 59) (ty := .array (.object "ReplayBox$Held")) C15 N15 dX11_init_107 (by decide) (va_up_self ..) rfl inX11 tyX11_ok nmX11 (by decide) lfRX11_58 rfl rfl rfl (by decide +kernel) (fun _ => rfl) (fun _ => rfl) ?_
  rw [rfL_put, va_up2]
  have hc15 := hc15.set (k := 0) (rfL_cl0 (j := 7) (r := 59) (by have q := hc15 0 (by decide); rw [va_up_self] at q; exact q) (by decide))
  rw [va_up2] at hc15
  refine j_aload_n C15 dX11_init_110 rfl rfl ?_
  refine j_bipush (v := (-2)) C15 dX11_init_111 (by decide) ?_
  refine pCRX11_62 C15 dX11_init_113 (by decide) (va_up_self ..) rfl ?_
  have eF : va_up SI 0 (.inr (.inl (10, 13, rfL [(7, 59), (6, 52), (5, 47), (4, 35), (3, 25), (2, 15), (1, 8), (0, 1)] []))) = SI := va_up_id rfl
  simp only [xg_xg]
  rw [eF]
  exact K (60, ad15, SI, hs h00 0 12 (-2)) 59 7193 ⟨ad15, rfl, ((hA15 0 (by decide)).trans ((hA14 0 (by decide)).trans ((hA13 0 (by decide)).trans ((hA12 0 (by decide)).trans ((hA11 0 (by decide)).trans ((hA10 0 (by decide)).trans ((hA9 0 (by decide)).trans ((hA8 0 (by decide)).trans ((hA7 0 (by decide)).trans ((hA6 0 (by decide)).trans ((hA5 0 (by decide)).trans ((hA4 0 (by decide)).trans ((hA3 0 (by decide)).trans ((hA2 0 (by decide)).trans (hA1 0 (by decide))))))))))))))))⟩ (by decide) (by decide) _ _ dX11_init_116)
end INITB
