/-! THE REFERENCE'S CONSTRUCTOR -/
def SMI (k : Nat) : ph_E := match k with
  | 0 => .inr (.inl (11, 83, rfL [(82, 49), (81, 48), (80, 47), (79, 46), (78, 45), (77, 44), (76, 43), (75, 42), (72, 41), (71, 40), (63, 39), (62, 38), (61, 37), (59, 36), (58, 35), (57, 34), (56, 33), (55, 32), (54, 31), (53, 30), (52, 29), (51, 28), (50, 27), (49, 26), (48, 25), (47, 24), (46, 23), (45, 22), (44, 21), (43, 20), (22, 19), (21, 18), (20, 17), (19, 16), (17, 15), (16, 14), (15, 13), (14, 12), (13, 11), (12, 10), (11, 9), (10, 8), (8, 7), (6, 6), (5, 5), (4, 4), (3, 3), (2, 2), (1, 1)] []))
  | 1 => .inl (0, 4)
  | 2 => .inl (0, 96)
  | 3 => .inl (0, 96)
  | 4 => .inl (0, 96)
  | 5 => .inl (0, 96)
  | 6 => .inl (0, 12)
  | 7 => .inl (0, 30)
  | 8 => .inl (0, 40)
  | 9 => .inl (0, 40)
  | 10 => .inl (0, 28)
  | 11 => .inl (0, 28)
  | 12 => .inl (0, 4)
  | 13 => .inl (1, 4)
  | 14 => .inl (0, 4)
  | 15 => .inl (0, 4)
  | 16 => .inl (0, 12)
  | 17 => .inl (0, 12)
  | 18 => .inl (0, 12)
  | 19 => .inl (0, 192)
  | 20 => .inl (0, 8428)
  | 21 => .inl (0, 8428)
  | 22 => .inl (0, 1204)
  | 23 => .inl (0, 1204)
  | 24 => .inl (0, 301)
  | 25 => .inl (0, 3612)
  | 26 => .inl (0, 3612)
  | 27 => .inl (0, 3612)
  | 28 => .inl (0, 57792)
  | 29 => .inl (0, 301)
  | 30 => .inl (0, 301)
  | 31 => .inl (0, 301)
  | 32 => .inl (0, 301)
  | 33 => .inl (0, 301)
  | 34 => .inl (0, 301)
  | 35 => .inl (0, 301)
  | 36 => .inl (0, 30)
  | 37 => .inl (0, 301)
  | 38 => .inl (0, 301)
  | 39 => .inl (1, 90601)
  | 40 => .inl (0, 2)
  | 41 => .inl (0, 2)
  | 42 => .inl (0, 2)
  | 43 => .inl (0, 2)
  | 44 => .inl (0, 8)
  | 45 => .inl (0, 8)
  | 46 => .inl (0, 8)
  | 47 => .inl (0, 8)
  | 48 => .inl (0, 480)
  | 49 => .inl (0, 60)
  | _ => .inl (0, 0)
theorem lfc_92 : Cond.constant RX12 92 57792 ∈ TW := (TWt 1118 (by decide +kernel) (by decide +kernel))
theorem lfc_126 : Cond.constant RX12 126 90601 ∈ TW := (TWt 1119 (by decide +kernel) (by decide +kernel))
section INITM
variable {l0 : Launch} {Y : fj_Y} {ad : Nat → Nat}
set_option maxRecDepth 100000 in
set_option maxHeartbeats 4000000 in
theorem tX12_init_40 {X : fj_X} (C0 : FC X Y l0 cX12_init 1 RX12 (mkR 1 49 182923 12) 0 0 none) (N : FN X "<init>") (ad0 : Nat → Nat) (e0 : ad0 0 = ad 0) (hc0 : clS 40 (va_up SMI 0 (.inr (.inl (11, 83, rfL [(63, 39), (62, 38), (61, 37), (59, 36), (58, 35), (57, 34), (56, 33), (55, 32), (54, 31), (53, 30), (52, 29), (51, 28), (50, 27), (49, 26), (48, 25), (47, 24), (46, 23), (45, 22), (44, 21), (43, 20), (22, 19), (21, 18), (20, 17), (19, 16), (17, 15), (16, 14), (15, 13), (14, 12), (13, 11), (12, 10), (11, 9), (10, 8), (8, 7), (6, 6), (5, 5), (4, 4), (3, 3), (2, 2), (1, 1)] [71, 72, 75, 76, 77, 78, 79, 80, 81, 82]))))) (K : ∀ u a b, (∃ ad', u = (50, ad', SMI, hs h00 0 66 (-2)) ∧ ad' 0 = ad 0) → a ≤ 49 → b ≤ 182923 → ∀ pc lv, decode cX12_init pc = .ok (.return_, 1) → FJ (xg X a b) Y u.2.1 u.1 u.2.2.1 u.2.2.2 pc lv []) : FJ (xg X 39 182343) Y ad0 40 (va_up SMI 0 (.inr (.inl (11, 83, rfL [(63, 39), (62, 38), (61, 37), (59, 36), (58, 35), (57, 34), (56, 33), (55, 32), (54, 31), (53, 30), (52, 29), (51, 28), (50, 27), (49, 26), (48, 25), (47, 24), (46, 23), (45, 22), (44, 21), (43, 20), (22, 19), (21, 18), (20, 17), (19, 16), (17, 15), (16, 14), (15, 13), (14, 12), (13, 11), (12, 10), (11, 9), (10, 8), (8, 7), (6, 6), (5, 5), (4, 4), (3, 3), (2, 2), (1, 1)] [71, 72, 75, 76, 77, 78, 79, 80, 81, 82])))) (hs h00 0 66 (-2)) 335 [(0, .ref (ad0 0))] [] := by
  have C1 := C0.g (a := 39) (b := 182343) (by decide) (by decide)
  refine j_aload_n C1 dX12_init_335 rfl rfl ?_
  refine j_iconst (v := 2) C1 dX12_init_336 (by decide) ?_
  refine j_nap (k0 := 0) (j := 71) (t := 0) (N := 2) (fty := .array .int) C1 N dX12_init_337 dX12_init_339 (by decide) (va_up_self ..) rfl rfl hc0 rfl ar_int (fun _ => rfl) raI (by decide +kernel) (by decide +kernel) (by decide) (by decide) rfl inM tyX12_ok nmX12 (by decide) lf_134 rfl rfl rfl (by decide +kernel) (fun _ => rfl) (fun _ => rfl) (fun ad1 hA1 hc1 => ?_)
  rw [va_up2] at hc1 ⊢
  rw [← hA1 0 (by decide)]
  have e1 := (hA1 0 (by decide)).trans e0
  have C2 := C1.g (a := 1) (b := 2) (by decide) (by decide)
  refine j_aload_n C2 dX12_init_342 rfl rfl ?_
  refine j_iconst (v := 2) C2 dX12_init_343 (by decide) ?_
  refine j_nap (k0 := 0) (j := 72) (t := 0) (N := 2) (fty := .array .int) C2 N dX12_init_344 dX12_init_346 (by decide) (va_up_self ..) rfl rfl hc1 rfl ar_int (fun _ => rfl) raI (by decide +kernel) (by decide +kernel) (by decide) (by decide) rfl inM tyX12_ok nmX12 (by decide) lf_137 rfl rfl rfl (by decide +kernel) (fun _ => rfl) (fun _ => rfl) (fun ad2 hA2 hc2 => ?_)
  rw [va_up2] at hc2 ⊢
  rw [← hA2 0 (by decide)]
  have e2 := (hA2 0 (by decide)).trans e1
  have C3 := C2.g (a := 1) (b := 2) (by decide) (by decide)
  refine j_aload_n C3 dX12_init_349 rfl rfl ?_
  refine j_iconst (v := 2) C3 dX12_init_350 (by decide) ?_
  refine j_nap (k0 := 0) (j := 75) (t := 0) (N := 2) (fty := .array .int) C3 N dX12_init_351 dX12_init_353 (by decide) (va_up_self ..) rfl rfl hc2 rfl ar_int (fun _ => rfl) raI (by decide +kernel) (by decide +kernel) (by decide) (by decide) rfl inM tyX12_ok nmX12 (by decide) lf_140 rfl rfl rfl (by decide +kernel) (fun _ => rfl) (fun _ => rfl) (fun ad3 hA3 hc3 => ?_)
  rw [va_up2] at hc3 ⊢
  rw [← hA3 0 (by decide)]
  have e3 := (hA3 0 (by decide)).trans e2
  have C4 := C3.g (a := 1) (b := 2) (by decide) (by decide)
  refine j_aload_n C4 dX12_init_356 rfl rfl ?_
  refine j_iconst (v := 2) C4 dX12_init_357 (by decide) ?_
  refine j_nap (k0 := 0) (j := 76) (t := 0) (N := 2) (fty := .array .int) C4 N dX12_init_358 dX12_init_360 (by decide) (va_up_self ..) rfl rfl hc3 rfl ar_int (fun _ => rfl) raI (by decide +kernel) (by decide +kernel) (by decide) (by decide) rfl inM tyX12_ok nmX12 (by decide) lf_143 rfl rfl rfl (by decide +kernel) (fun _ => rfl) (fun _ => rfl) (fun ad4 hA4 hc4 => ?_)
  rw [va_up2] at hc4 ⊢
  rw [← hA4 0 (by decide)]
  have e4 := (hA4 0 (by decide)).trans e3
  have C5 := C4.g (a := 1) (b := 2) (by decide) (by decide)
  refine j_aload_n C5 dX12_init_363 rfl rfl ?_
  refine j_bipush (v := 8) C5 dX12_init_364 (by decide) ?_
  refine j_nap (k0 := 0) (j := 77) (t := 0) (N := 8) (fty := .array .int) C5 N dX12_init_366 dX12_init_368 (by decide) (va_up_self ..) rfl rfl hc4 rfl ar_int (fun _ => rfl) raI (by decide +kernel) (by decide +kernel) (by decide) (by decide) rfl inM tyX12_ok nmX12 (by decide) lf_146 rfl rfl rfl (by decide +kernel) (fun _ => rfl) (fun _ => rfl) (fun ad5 hA5 hc5 => ?_)
  rw [va_up2] at hc5 ⊢
  rw [← hA5 0 (by decide)]
  have e5 := (hA5 0 (by decide)).trans e4
  have C6 := C5.g (a := 1) (b := 8) (by decide) (by decide)
  refine j_aload_n C6 dX12_init_371 rfl rfl ?_
  refine j_bipush (v := 8) C6 dX12_init_372 (by decide) ?_
  refine j_nap (k0 := 0) (j := 78) (t := 0) (N := 8) (fty := .array .int) C6 N dX12_init_374 dX12_init_376 (by decide) (va_up_self ..) rfl rfl hc5 rfl ar_int (fun _ => rfl) raI (by decide +kernel) (by decide +kernel) (by decide) (by decide) rfl inM tyX12_ok nmX12 (by decide) lf_149 rfl rfl rfl (by decide +kernel) (fun _ => rfl) (fun _ => rfl) (fun ad6 hA6 hc6 => ?_)
  rw [va_up2] at hc6 ⊢
  rw [← hA6 0 (by decide)]
  have e6 := (hA6 0 (by decide)).trans e5
  have C7 := C6.g (a := 1) (b := 8) (by decide) (by decide)
  refine j_aload_n C7 dX12_init_379 rfl rfl ?_
  refine j_bipush (v := 8) C7 dX12_init_380 (by decide) ?_
  refine j_nap (k0 := 0) (j := 79) (t := 0) (N := 8) (fty := .array .int) C7 N dX12_init_382 dX12_init_384 (by decide) (va_up_self ..) rfl rfl hc6 rfl ar_int (fun _ => rfl) raI (by decide +kernel) (by decide +kernel) (by decide) (by decide) rfl inM tyX12_ok nmX12 (by decide) lf_152 rfl rfl rfl (by decide +kernel) (fun _ => rfl) (fun _ => rfl) (fun ad7 hA7 hc7 => ?_)
  rw [va_up2] at hc7 ⊢
  rw [← hA7 0 (by decide)]
  have e7 := (hA7 0 (by decide)).trans e6
  have C8 := C7.g (a := 1) (b := 8) (by decide) (by decide)
  refine j_aload_n C8 dX12_init_387 rfl rfl ?_
  refine j_bipush (v := 8) C8 dX12_init_388 (by decide) ?_
  refine j_nap (k0 := 0) (j := 80) (t := 0) (N := 8) (fty := .array .int) C8 N dX12_init_390 dX12_init_392 (by decide) (va_up_self ..) rfl rfl hc7 rfl ar_int (fun _ => rfl) raI (by decide +kernel) (by decide +kernel) (by decide) (by decide) rfl inM tyX12_ok nmX12 (by decide) lf_155 rfl rfl rfl (by decide +kernel) (fun _ => rfl) (fun _ => rfl) (fun ad8 hA8 hc8 => ?_)
  rw [va_up2] at hc8 ⊢
  rw [← hA8 0 (by decide)]
  have e8 := (hA8 0 (by decide)).trans e7
  have C9 := C8.g (a := 1) (b := 8) (by decide) (by decide)
  refine j_aload_n C9 dX12_init_395 rfl rfl ?_
  refine j_sipush (v := 480) C9 dX12_init_396 (by decide) ?_
  refine j_nap (k0 := 0) (j := 81) (t := 0) (N := 480) (fty := .array .int) C9 N dX12_init_399 dX12_init_401 (by decide) (va_up_self ..) rfl rfl hc8 rfl ar_int (fun _ => rfl) raI (by decide +kernel) (by decide +kernel) (by decide) (by decide) rfl inM tyX12_ok nmX12 (by decide) lf_158 rfl rfl rfl (by decide +kernel) (fun _ => rfl) (fun _ => rfl) (fun ad9 hA9 hc9 => ?_)
  rw [va_up2] at hc9 ⊢
  rw [← hA9 0 (by decide)]
  have e9 := (hA9 0 (by decide)).trans e8
  have C10 := C9.g (a := 1) (b := 480) (by decide) (by decide)
  refine j_aload_n C10 dX12_init_404 rfl rfl ?_
  refine j_bipush (v := 60) C10 dX12_init_405 (by decide) ?_
  refine j_nap (k0 := 0) (j := 82) (t := 0) (N := 60) (fty := .array .int) C10 N dX12_init_407 dX12_init_409 (by decide) (va_up_self ..) rfl rfl hc9 rfl ar_int (fun _ => rfl) raI (by decide +kernel) (by decide +kernel) (by decide) (by decide) rfl inM tyX12_ok nmX12 (by decide) lf_161 rfl rfl rfl (by decide +kernel) (fun _ => rfl) (fun _ => rfl) (fun ad10 hA10 hc10 => ?_)
  rw [va_up2] at hc10 ⊢
  rw [← hA10 0 (by decide)]
  have e10 := (hA10 0 (by decide)).trans e9
  have C11 := C10.g (a := 1) (b := 60) (by decide) (by decide)
  simp only [xg_xg]
  have eF : va_up SMI 0 (.inr (.inl (11, 83, rfL [(82, 49), (81, 48), (80, 47), (79, 46), (78, 45), (77, 44), (76, 43), (75, 42), (72, 41), (71, 40), (63, 39), (62, 38), (61, 37), (59, 36), (58, 35), (57, 34), (56, 33), (55, 32), (54, 31), (53, 30), (52, 29), (51, 28), (50, 27), (49, 26), (48, 25), (47, 24), (46, 23), (45, 22), (44, 21), (43, 20), (22, 19), (21, 18), (20, 17), (19, 16), (17, 15), (16, 14), (15, 13), (14, 12), (13, 11), (12, 10), (11, 9), (10, 8), (8, 7), (6, 6), (5, 5), (4, 4), (3, 3), (2, 2), (1, 1)] []))) = SMI := va_up_id rfl
  rw [eF]
  exact K (50, ad10, SMI, hs h00 0 66 (-2)) 49 182923 ⟨ad10, rfl, e10⟩ (by decide) (by decide) _ _ dX12_init_412
set_option maxRecDepth 100000 in
set_option maxHeartbeats 4000000 in
theorem tX12_init_30 {X : fj_X} (C0 : FC X Y l0 cX12_init 1 RX12 (mkR 1 49 182923 12) 0 0 none) (N : FN X "<init>") (ad0 : Nat → Nat) (e0 : ad0 0 = ad 0) (hc0 : clS 31 (va_up SMI 0 (.inr (.inl (11, 83, rfL [(53, 30), (52, 29), (51, 28), (50, 27), (49, 26), (48, 25), (47, 24), (46, 23), (45, 22), (44, 21), (43, 20), (22, 19), (21, 18), (20, 17), (19, 16), (17, 15), (16, 14), (15, 13), (14, 12), (13, 11), (12, 10), (11, 9), (10, 8), (8, 7), (6, 6), (5, 5), (4, 4), (3, 3), (2, 2), (1, 1)] [54, 55, 56, 57, 58, 59, 61, 62, 63, 71, 72, 75, 76, 77, 78, 79, 80, 81, 82]))))) (K : ∀ u a b, (∃ ad', u = (50, ad', SMI, hs h00 0 66 (-2)) ∧ ad' 0 = ad 0) → a ≤ 49 → b ≤ 182923 → ∀ pc lv, decode cX12_init pc = .ok (.return_, 1) → FJ (xg X a b) Y u.2.1 u.1 u.2.2.1 u.2.2.2 pc lv []) : FJ (xg X 30 89605) Y ad0 31 (va_up SMI 0 (.inr (.inl (11, 83, rfL [(53, 30), (52, 29), (51, 28), (50, 27), (49, 26), (48, 25), (47, 24), (46, 23), (45, 22), (44, 21), (43, 20), (22, 19), (21, 18), (20, 17), (19, 16), (17, 15), (16, 14), (15, 13), (14, 12), (13, 11), (12, 10), (11, 9), (10, 8), (8, 7), (6, 6), (5, 5), (4, 4), (3, 3), (2, 2), (1, 1)] [54, 55, 56, 57, 58, 59, 61, 62, 63, 71, 72, 75, 76, 77, 78, 79, 80, 81, 82])))) (h00) 250 [(0, .ref (ad0 0))] [] := by
  have C1 := C0.g (a := 30) (b := 89605) (by decide) (by decide)
  refine j_aload_n C1 dX12_init_250 rfl rfl ?_
  refine j_sipush (v := 301) C1 dX12_init_251 (by decide) ?_
  refine j_nap (k0 := 0) (j := 54) (t := 0) (N := 301) (fty := .array .int) C1 N dX12_init_254 dX12_init_256 (by decide) (va_up_self ..) rfl rfl hc0 rfl ar_int (fun _ => rfl) raI (by decide +kernel) (by decide +kernel) (by decide) (by decide) rfl inM tyX12_ok nmX12 (by decide) lf_102 rfl rfl rfl (by decide +kernel) (fun _ => rfl) (fun _ => rfl) (fun ad1 hA1 hc1 => ?_)
  rw [va_up2] at hc1 ⊢
  rw [← hA1 0 (by decide)]
  have e1 := (hA1 0 (by decide)).trans e0
  have C2 := C1.g (a := 1) (b := 301) (by decide) (by decide)
  refine j_aload_n C2 dX12_init_259 rfl rfl ?_
  refine j_sipush (v := 301) C2 dX12_init_260 (by decide) ?_
  refine j_nap (k0 := 0) (j := 55) (t := 0) (N := 301) (fty := .array .int) C2 N dX12_init_263 dX12_init_265 (by decide) (va_up_self ..) rfl rfl hc1 rfl ar_int (fun _ => rfl) raI (by decide +kernel) (by decide +kernel) (by decide) (by decide) rfl inM tyX12_ok nmX12 (by decide) lf_105 rfl rfl rfl (by decide +kernel) (fun _ => rfl) (fun _ => rfl) (fun ad2 hA2 hc2 => ?_)
  rw [va_up2] at hc2 ⊢
  rw [← hA2 0 (by decide)]
  have e2 := (hA2 0 (by decide)).trans e1
  have C3 := C2.g (a := 1) (b := 301) (by decide) (by decide)
  refine j_aload_n C3 dX12_init_268 rfl rfl ?_
  refine j_sipush (v := 301) C3 dX12_init_269 (by decide) ?_
  refine j_nap (k0 := 0) (j := 56) (t := 0) (N := 301) (fty := .array .int) C3 N dX12_init_272 dX12_init_274 (by decide) (va_up_self ..) rfl rfl hc2 rfl ar_int (fun _ => rfl) raI (by decide +kernel) (by decide +kernel) (by decide) (by decide) rfl inM tyX12_ok nmX12 (by decide) lf_108 rfl rfl rfl (by decide +kernel) (fun _ => rfl) (fun _ => rfl) (fun ad3 hA3 hc3 => ?_)
  rw [va_up2] at hc3 ⊢
  rw [← hA3 0 (by decide)]
  have e3 := (hA3 0 (by decide)).trans e2
  have C4 := C3.g (a := 1) (b := 301) (by decide) (by decide)
  refine j_aload_n C4 dX12_init_277 rfl rfl ?_
  refine j_sipush (v := 301) C4 dX12_init_278 (by decide) ?_
  refine j_nap (k0 := 0) (j := 57) (t := 0) (N := 301) (fty := .array .int) C4 N dX12_init_281 dX12_init_283 (by decide) (va_up_self ..) rfl rfl hc3 rfl ar_int (fun _ => rfl) raI (by decide +kernel) (by decide +kernel) (by decide) (by decide) rfl inM tyX12_ok nmX12 (by decide) lf_111 rfl rfl rfl (by decide +kernel) (fun _ => rfl) (fun _ => rfl) (fun ad4 hA4 hc4 => ?_)
  rw [va_up2] at hc4 ⊢
  rw [← hA4 0 (by decide)]
  have e4 := (hA4 0 (by decide)).trans e3
  have C5 := C4.g (a := 1) (b := 301) (by decide) (by decide)
  refine j_aload_n C5 dX12_init_286 rfl rfl ?_
  refine j_sipush (v := 301) C5 dX12_init_287 (by decide) ?_
  refine j_nap (k0 := 0) (j := 58) (t := 0) (N := 301) (fty := .array .int) C5 N dX12_init_290 dX12_init_292 (by decide) (va_up_self ..) rfl rfl hc4 rfl ar_int (fun _ => rfl) raI (by decide +kernel) (by decide +kernel) (by decide) (by decide) rfl inM tyX12_ok nmX12 (by decide) lf_114 rfl rfl rfl (by decide +kernel) (fun _ => rfl) (fun _ => rfl) (fun ad5 hA5 hc5 => ?_)
  rw [va_up2] at hc5 ⊢
  rw [← hA5 0 (by decide)]
  have e5 := (hA5 0 (by decide)).trans e4
  have C6 := C5.g (a := 1) (b := 301) (by decide) (by decide)
  refine j_aload_n C6 dX12_init_295 rfl rfl ?_
  refine j_bipush (v := 30) C6 dX12_init_296 (by decide) ?_
  refine j_nap (k0 := 0) (j := 59) (t := 0) (N := 30) (fty := .array .int) C6 N dX12_init_298 dX12_init_300 (by decide) (va_up_self ..) rfl rfl hc5 rfl ar_int (fun _ => rfl) raI (by decide +kernel) (by decide +kernel) (by decide) (by decide) rfl inM tyX12_ok nmX12 (by decide) lf_117 rfl rfl rfl (by decide +kernel) (fun _ => rfl) (fun _ => rfl) (fun ad6 hA6 hc6 => ?_)
  rw [va_up2] at hc6 ⊢
  rw [← hA6 0 (by decide)]
  have e6 := (hA6 0 (by decide)).trans e5
  have C7 := C6.g (a := 1) (b := 30) (by decide) (by decide)
  refine j_aload_n C7 dX12_init_303 rfl rfl ?_
  refine j_sipush (v := 301) C7 dX12_init_304 (by decide) ?_
  refine j_nap (k0 := 0) (j := 61) (t := 0) (N := 301) (fty := .array .int) C7 N dX12_init_307 dX12_init_309 (by decide) (va_up_self ..) rfl rfl hc6 rfl ar_int (fun _ => rfl) raI (by decide +kernel) (by decide +kernel) (by decide) (by decide) rfl inM tyX12_ok nmX12 (by decide) lf_120 rfl rfl rfl (by decide +kernel) (fun _ => rfl) (fun _ => rfl) (fun ad7 hA7 hc7 => ?_)
  rw [va_up2] at hc7 ⊢
  rw [← hA7 0 (by decide)]
  have e7 := (hA7 0 (by decide)).trans e6
  have C8 := C7.g (a := 1) (b := 301) (by decide) (by decide)
  refine j_aload_n C8 dX12_init_312 rfl rfl ?_
  refine j_sipush (v := 301) C8 dX12_init_313 (by decide) ?_
  refine j_nap (k0 := 0) (j := 62) (t := 0) (N := 301) (fty := .array .int) C8 N dX12_init_316 dX12_init_318 (by decide) (va_up_self ..) rfl rfl hc7 rfl ar_int (fun _ => rfl) raI (by decide +kernel) (by decide +kernel) (by decide) (by decide) rfl inM tyX12_ok nmX12 (by decide) lf_123 rfl rfl rfl (by decide +kernel) (fun _ => rfl) (fun _ => rfl) (fun ad8 hA8 hc8 => ?_)
  rw [va_up2] at hc8 ⊢
  rw [← hA8 0 (by decide)]
  have e8 := (hA8 0 (by decide)).trans e7
  have C9 := C8.g (a := 1) (b := 301) (by decide) (by decide)
  refine j_aload_n C9 dX12_init_321 rfl rfl ?_
  refine j_ldc C9 dX12_init_322 lfc_126 ?_
  refine j_nap (k0 := 0) (j := 63) (t := 1) (N := 90601) (fty := .array .boolean) C9 N dX12_init_324 dX12_init_326 (by decide) (va_up_self ..) rfl rfl hc8 rfl ar_boolean (fun _ => rfl) raZ (by decide +kernel) (by decide +kernel) (by decide) (by decide) rfl inM tyX12_ok nmX12 (by decide) lf_127 rfl rfl rfl (by decide +kernel) (fun _ => rfl) (fun _ => rfl) (fun ad9 hA9 hc9 => ?_)
  rw [va_up2] at hc9 ⊢
  rw [← hA9 0 (by decide)]
  have e9 := (hA9 0 (by decide)).trans e8
  have C10 := C9.g (a := 1) (b := 90601) (by decide) (by decide)
  refine j_aload_n C10 dX12_init_329 rfl rfl ?_
  refine j_bipush (v := (-2)) C10 dX12_init_330 (by decide) ?_
  refine j_put (ty := .int) (j := 66) C10 dX12_init_332 (by decide) (va_up_self ..) rfl inM tyX12_ok nmX12 (by decide) lf_130 rfl rfl rfl (by decide +kernel) rfl rfl ?_
  simp only [xg_xg]
  exact tX12_init_40 C0 N ad9 e9 hc9 K
set_option maxRecDepth 100000 in
set_option maxHeartbeats 4000000 in
theorem tX12_init_20 {X : fj_X} (C0 : FC X Y l0 cX12_init 1 RX12 (mkR 1 49 182923 12) 0 0 none) (N : FN X "<init>") (ad0 : Nat → Nat) (e0 : ad0 0 = ad 0) (hc0 : clS 21 (va_up SMI 0 (.inr (.inl (11, 83, rfL [(43, 20), (22, 19), (21, 18), (20, 17), (19, 16), (17, 15), (16, 14), (15, 13), (14, 12), (13, 11), (12, 10), (11, 9), (10, 8), (8, 7), (6, 6), (5, 5), (4, 4), (3, 3), (2, 2), (1, 1)] [44, 45, 46, 47, 48, 49, 50, 51, 52, 53, 54, 55, 56, 57, 58, 59, 61, 62, 63, 71, 72, 75, 76, 77, 78, 79, 80, 81, 82]))))) (K : ∀ u a b, (∃ ad', u = (50, ad', SMI, hs h00 0 66 (-2)) ∧ ad' 0 = ad 0) → a ≤ 49 → b ≤ 182923 → ∀ pc lv, decode cX12_init pc = .ok (.return_, 1) → FJ (xg X a b) Y u.2.1 u.1 u.2.2.1 u.2.2.2 pc lv []) : FJ (xg X 20 9238) Y ad0 21 (va_up SMI 0 (.inr (.inl (11, 83, rfL [(43, 20), (22, 19), (21, 18), (20, 17), (19, 16), (17, 15), (16, 14), (15, 13), (14, 12), (13, 11), (12, 10), (11, 9), (10, 8), (8, 7), (6, 6), (5, 5), (4, 4), (3, 3), (2, 2), (1, 1)] [44, 45, 46, 47, 48, 49, 50, 51, 52, 53, 54, 55, 56, 57, 58, 59, 61, 62, 63, 71, 72, 75, 76, 77, 78, 79, 80, 81, 82])))) (h00) 161 [(0, .ref (ad0 0))] [] := by
  have C1 := C0.g (a := 20) (b := 9238) (by decide) (by decide)
  refine j_aload_n C1 dX12_init_161 rfl rfl ?_
  refine j_sipush (v := 8428) C1 dX12_init_162 (by decide) ?_
  refine j_nap (k0 := 0) (j := 44) (t := 0) (N := 8428) (fty := .array .int) C1 N dX12_init_165 dX12_init_167 (by decide) (va_up_self ..) rfl rfl hc0 rfl ar_int (fun _ => rfl) raI (by decide +kernel) (by decide +kernel) (by decide) (by decide) rfl inM tyX12_ok nmX12 (by decide) lf_71 rfl rfl rfl (by decide +kernel) (fun _ => rfl) (fun _ => rfl) (fun ad1 hA1 hc1 => ?_)
  rw [va_up2] at hc1 ⊢
  rw [← hA1 0 (by decide)]
  have e1 := (hA1 0 (by decide)).trans e0
  have C2 := C1.g (a := 1) (b := 8428) (by decide) (by decide)
  refine j_aload_n C2 dX12_init_170 rfl rfl ?_
  refine j_sipush (v := 1204) C2 dX12_init_171 (by decide) ?_
  refine j_nap (k0 := 0) (j := 45) (t := 0) (N := 1204) (fty := .array .int) C2 N dX12_init_174 dX12_init_176 (by decide) (va_up_self ..) rfl rfl hc1 rfl ar_int (fun _ => rfl) raI (by decide +kernel) (by decide +kernel) (by decide) (by decide) rfl inM tyX12_ok nmX12 (by decide) lf_74 rfl rfl rfl (by decide +kernel) (fun _ => rfl) (fun _ => rfl) (fun ad2 hA2 hc2 => ?_)
  rw [va_up2] at hc2 ⊢
  rw [← hA2 0 (by decide)]
  have e2 := (hA2 0 (by decide)).trans e1
  have C3 := C2.g (a := 1) (b := 1204) (by decide) (by decide)
  refine j_aload_n C3 dX12_init_179 rfl rfl ?_
  refine j_sipush (v := 1204) C3 dX12_init_180 (by decide) ?_
  refine j_nap (k0 := 0) (j := 46) (t := 0) (N := 1204) (fty := .array .int) C3 N dX12_init_183 dX12_init_185 (by decide) (va_up_self ..) rfl rfl hc2 rfl ar_int (fun _ => rfl) raI (by decide +kernel) (by decide +kernel) (by decide) (by decide) rfl inM tyX12_ok nmX12 (by decide) lf_77 rfl rfl rfl (by decide +kernel) (fun _ => rfl) (fun _ => rfl) (fun ad3 hA3 hc3 => ?_)
  rw [va_up2] at hc3 ⊢
  rw [← hA3 0 (by decide)]
  have e3 := (hA3 0 (by decide)).trans e2
  have C4 := C3.g (a := 1) (b := 1204) (by decide) (by decide)
  refine j_aload_n C4 dX12_init_188 rfl rfl ?_
  refine j_sipush (v := 301) C4 dX12_init_189 (by decide) ?_
  refine j_nap (k0 := 0) (j := 47) (t := 0) (N := 301) (fty := .array .int) C4 N dX12_init_192 dX12_init_194 (by decide) (va_up_self ..) rfl rfl hc3 rfl ar_int (fun _ => rfl) raI (by decide +kernel) (by decide +kernel) (by decide) (by decide) rfl inM tyX12_ok nmX12 (by decide) lf_80 rfl rfl rfl (by decide +kernel) (fun _ => rfl) (fun _ => rfl) (fun ad4 hA4 hc4 => ?_)
  rw [va_up2] at hc4 ⊢
  rw [← hA4 0 (by decide)]
  have e4 := (hA4 0 (by decide)).trans e3
  have C5 := C4.g (a := 1) (b := 301) (by decide) (by decide)
  refine j_aload_n C5 dX12_init_197 rfl rfl ?_
  refine j_sipush (v := 3612) C5 dX12_init_198 (by decide) ?_
  refine j_nap (k0 := 0) (j := 48) (t := 0) (N := 3612) (fty := .array .int) C5 N dX12_init_201 dX12_init_203 (by decide) (va_up_self ..) rfl rfl hc4 rfl ar_int (fun _ => rfl) raI (by decide +kernel) (by decide +kernel) (by decide) (by decide) rfl inM tyX12_ok nmX12 (by decide) lf_83 rfl rfl rfl (by decide +kernel) (fun _ => rfl) (fun _ => rfl) (fun ad5 hA5 hc5 => ?_)
  rw [va_up2] at hc5 ⊢
  rw [← hA5 0 (by decide)]
  have e5 := (hA5 0 (by decide)).trans e4
  have C6 := C5.g (a := 1) (b := 3612) (by decide) (by decide)
  refine j_aload_n C6 dX12_init_206 rfl rfl ?_
  refine j_sipush (v := 3612) C6 dX12_init_207 (by decide) ?_
  refine j_nap (k0 := 0) (j := 49) (t := 0) (N := 3612) (fty := .array .int) C6 N dX12_init_210 dX12_init_212 (by decide) (va_up_self ..) rfl rfl hc5 rfl ar_int (fun _ => rfl) raI (by decide +kernel) (by decide +kernel) (by decide) (by decide) rfl inM tyX12_ok nmX12 (by decide) lf_86 rfl rfl rfl (by decide +kernel) (fun _ => rfl) (fun _ => rfl) (fun ad6 hA6 hc6 => ?_)
  rw [va_up2] at hc6 ⊢
  rw [← hA6 0 (by decide)]
  have e6 := (hA6 0 (by decide)).trans e5
  have C7 := C6.g (a := 1) (b := 3612) (by decide) (by decide)
  refine j_aload_n C7 dX12_init_215 rfl rfl ?_
  refine j_sipush (v := 3612) C7 dX12_init_216 (by decide) ?_
  refine j_nap (k0 := 0) (j := 50) (t := 0) (N := 3612) (fty := .array .int) C7 N dX12_init_219 dX12_init_221 (by decide) (va_up_self ..) rfl rfl hc6 rfl ar_int (fun _ => rfl) raI (by decide +kernel) (by decide +kernel) (by decide) (by decide) rfl inM tyX12_ok nmX12 (by decide) lf_89 rfl rfl rfl (by decide +kernel) (fun _ => rfl) (fun _ => rfl) (fun ad7 hA7 hc7 => ?_)
  rw [va_up2] at hc7 ⊢
  rw [← hA7 0 (by decide)]
  have e7 := (hA7 0 (by decide)).trans e6
  have C8 := C7.g (a := 1) (b := 3612) (by decide) (by decide)
  refine j_aload_n C8 dX12_init_224 rfl rfl ?_
  refine j_ldc C8 dX12_init_225 lfc_92 ?_
  refine j_nap (k0 := 0) (j := 51) (t := 0) (N := 57792) (fty := .array .int) C8 N dX12_init_227 dX12_init_229 (by decide) (va_up_self ..) rfl rfl hc7 rfl ar_int (fun _ => rfl) raI (by decide +kernel) (by decide +kernel) (by decide) (by decide) rfl inM tyX12_ok nmX12 (by decide) lf_93 rfl rfl rfl (by decide +kernel) (fun _ => rfl) (fun _ => rfl) (fun ad8 hA8 hc8 => ?_)
  rw [va_up2] at hc8 ⊢
  rw [← hA8 0 (by decide)]
  have e8 := (hA8 0 (by decide)).trans e7
  have C9 := C8.g (a := 1) (b := 57792) (by decide) (by decide)
  refine j_aload_n C9 dX12_init_232 rfl rfl ?_
  refine j_sipush (v := 301) C9 dX12_init_233 (by decide) ?_
  refine j_nap (k0 := 0) (j := 52) (t := 0) (N := 301) (fty := .array .int) C9 N dX12_init_236 dX12_init_238 (by decide) (va_up_self ..) rfl rfl hc8 rfl ar_int (fun _ => rfl) raI (by decide +kernel) (by decide +kernel) (by decide) (by decide) rfl inM tyX12_ok nmX12 (by decide) lf_96 rfl rfl rfl (by decide +kernel) (fun _ => rfl) (fun _ => rfl) (fun ad9 hA9 hc9 => ?_)
  rw [va_up2] at hc9 ⊢
  rw [← hA9 0 (by decide)]
  have e9 := (hA9 0 (by decide)).trans e8
  have C10 := C9.g (a := 1) (b := 301) (by decide) (by decide)
  refine j_aload_n C10 dX12_init_241 rfl rfl ?_
  refine j_sipush (v := 301) C10 dX12_init_242 (by decide) ?_
  refine j_nap (k0 := 0) (j := 53) (t := 0) (N := 301) (fty := .array .int) C10 N dX12_init_245 dX12_init_247 (by decide) (va_up_self ..) rfl rfl hc9 rfl ar_int (fun _ => rfl) raI (by decide +kernel) (by decide +kernel) (by decide) (by decide) rfl inM tyX12_ok nmX12 (by decide) lf_99 rfl rfl rfl (by decide +kernel) (fun _ => rfl) (fun _ => rfl) (fun ad10 hA10 hc10 => ?_)
  rw [va_up2] at hc10 ⊢
  rw [← hA10 0 (by decide)]
  have e10 := (hA10 0 (by decide)).trans e9
  have C11 := C10.g (a := 1) (b := 301) (by decide) (by decide)
  simp only [xg_xg]
  exact tX12_init_30 C0 N ad10 e10 hc10 K
set_option maxRecDepth 100000 in
set_option maxHeartbeats 4000000 in
theorem tX12_init_10 {X : fj_X} (C0 : FC X Y l0 cX12_init 1 RX12 (mkR 1 49 182923 12) 0 0 none) (N : FN X "<init>") (ad0 : Nat → Nat) (e0 : ad0 0 = ad 0) (hc0 : clS 11 (va_up SMI 0 (.inr (.inl (11, 83, rfL [(12, 10), (11, 9), (10, 8), (8, 7), (6, 6), (5, 5), (4, 4), (3, 3), (2, 2), (1, 1)] [13, 14, 15, 16, 17, 19, 20, 21, 22, 43, 44, 45, 46, 47, 48, 49, 50, 51, 52, 53, 54, 55, 56, 57, 58, 59, 61, 62, 63, 71, 72, 75, 76, 77, 78, 79, 80, 81, 82]))))) (K : ∀ u a b, (∃ ad', u = (50, ad', SMI, hs h00 0 66 (-2)) ∧ ad' 0 = ad 0) → a ≤ 49 → b ≤ 182923 → ∀ pc lv, decode cX12_init pc = .ok (.return_, 1) → FJ (xg X a b) Y u.2.1 u.1 u.2.2.1 u.2.2.2 pc lv []) : FJ (xg X 10 538) Y ad0 11 (va_up SMI 0 (.inr (.inl (11, 83, rfL [(12, 10), (11, 9), (10, 8), (8, 7), (6, 6), (5, 5), (4, 4), (3, 3), (2, 2), (1, 1)] [13, 14, 15, 16, 17, 19, 20, 21, 22, 43, 44, 45, 46, 47, 48, 49, 50, 51, 52, 53, 54, 55, 56, 57, 58, 59, 61, 62, 63, 71, 72, 75, 76, 77, 78, 79, 80, 81, 82])))) (h00) 83 [(0, .ref (ad0 0))] [] := by
  have C1 := C0.g (a := 10) (b := 538) (by decide) (by decide)
  refine j_aload_n C1 dX12_init_83 rfl rfl ?_
  refine j_bipush (v := 28) C1 dX12_init_84 (by decide) ?_
  refine j_nap (k0 := 0) (j := 13) (t := 0) (N := 28) (fty := .array .int) C1 N dX12_init_86 dX12_init_88 (by decide) (va_up_self ..) rfl rfl hc0 rfl ar_int (fun _ => rfl) raI (by decide +kernel) (by decide +kernel) (by decide) (by decide) rfl inM tyX12_ok nmX12 (by decide) lf_40 rfl rfl rfl (by decide +kernel) (fun _ => rfl) (fun _ => rfl) (fun ad1 hA1 hc1 => ?_)
  rw [va_up2] at hc1 ⊢
  rw [← hA1 0 (by decide)]
  have e1 := (hA1 0 (by decide)).trans e0
  have C2 := C1.g (a := 1) (b := 28) (by decide) (by decide)
  refine j_aload_n C2 dX12_init_91 rfl rfl ?_
  refine j_iconst (v := 4) C2 dX12_init_92 (by decide) ?_
  refine j_nap (k0 := 0) (j := 14) (t := 0) (N := 4) (fty := .array .int) C2 N dX12_init_93 dX12_init_95 (by decide) (va_up_self ..) rfl rfl hc1 rfl ar_int (fun _ => rfl) raI (by decide +kernel) (by decide +kernel) (by decide) (by decide) rfl inM tyX12_ok nmX12 (by decide) lf_43 rfl rfl rfl (by decide +kernel) (fun _ => rfl) (fun _ => rfl) (fun ad2 hA2 hc2 => ?_)
  rw [va_up2] at hc2 ⊢
  rw [← hA2 0 (by decide)]
  have e2 := (hA2 0 (by decide)).trans e1
  have C3 := C2.g (a := 1) (b := 4) (by decide) (by decide)
  refine j_aload_n C3 dX12_init_98 rfl rfl ?_
  refine j_iconst (v := 4) C3 dX12_init_99 (by decide) ?_
  refine j_nap (k0 := 0) (j := 15) (t := 1) (N := 4) (fty := .array .boolean) C3 N dX12_init_100 dX12_init_102 (by decide) (va_up_self ..) rfl rfl hc2 rfl ar_boolean (fun _ => rfl) raZ (by decide +kernel) (by decide +kernel) (by decide) (by decide) rfl inM tyX12_ok nmX12 (by decide) lf_46 rfl rfl rfl (by decide +kernel) (fun _ => rfl) (fun _ => rfl) (fun ad3 hA3 hc3 => ?_)
  rw [va_up2] at hc3 ⊢
  rw [← hA3 0 (by decide)]
  have e3 := (hA3 0 (by decide)).trans e2
  have C4 := C3.g (a := 1) (b := 4) (by decide) (by decide)
  refine j_aload_n C4 dX12_init_105 rfl rfl ?_
  refine j_iconst (v := 4) C4 dX12_init_106 (by decide) ?_
  refine j_nap (k0 := 0) (j := 16) (t := 0) (N := 4) (fty := .array .int) C4 N dX12_init_107 dX12_init_109 (by decide) (va_up_self ..) rfl rfl hc3 rfl ar_int (fun _ => rfl) raI (by decide +kernel) (by decide +kernel) (by decide) (by decide) rfl inM tyX12_ok nmX12 (by decide) lf_50 rfl rfl rfl (by decide +kernel) (fun _ => rfl) (fun _ => rfl) (fun ad4 hA4 hc4 => ?_)
  rw [va_up2] at hc4 ⊢
  rw [← hA4 0 (by decide)]
  have e4 := (hA4 0 (by decide)).trans e3
  have C5 := C4.g (a := 1) (b := 4) (by decide) (by decide)
  refine j_aload_n C5 dX12_init_112 rfl rfl ?_
  refine j_iconst (v := 4) C5 dX12_init_113 (by decide) ?_
  refine j_nap (k0 := 0) (j := 17) (t := 0) (N := 4) (fty := .array .int) C5 N dX12_init_114 dX12_init_116 (by decide) (va_up_self ..) rfl rfl hc4 rfl ar_int (fun _ => rfl) raI (by decide +kernel) (by decide +kernel) (by decide) (by decide) rfl inM tyX12_ok nmX12 (by decide) lf_53 rfl rfl rfl (by decide +kernel) (fun _ => rfl) (fun _ => rfl) (fun ad5 hA5 hc5 => ?_)
  rw [va_up2] at hc5 ⊢
  rw [← hA5 0 (by decide)]
  have e5 := (hA5 0 (by decide)).trans e4
  have C6 := C5.g (a := 1) (b := 4) (by decide) (by decide)
  refine j_aload_n C6 dX12_init_119 rfl rfl ?_
  refine j_bipush (v := 12) C6 dX12_init_120 (by decide) ?_
  refine j_nap (k0 := 0) (j := 19) (t := 0) (N := 12) (fty := .array .int) C6 N dX12_init_122 dX12_init_124 (by decide) (va_up_self ..) rfl rfl hc5 rfl ar_int (fun _ => rfl) raI (by decide +kernel) (by decide +kernel) (by decide) (by decide) rfl inM tyX12_ok nmX12 (by decide) lf_56 rfl rfl rfl (by decide +kernel) (fun _ => rfl) (fun _ => rfl) (fun ad6 hA6 hc6 => ?_)
  rw [va_up2] at hc6 ⊢
  rw [← hA6 0 (by decide)]
  have e6 := (hA6 0 (by decide)).trans e5
  have C7 := C6.g (a := 1) (b := 12) (by decide) (by decide)
  refine j_aload_n C7 dX12_init_127 rfl rfl ?_
  refine j_bipush (v := 12) C7 dX12_init_128 (by decide) ?_
  refine j_nap (k0 := 0) (j := 20) (t := 0) (N := 12) (fty := .array .int) C7 N dX12_init_130 dX12_init_132 (by decide) (va_up_self ..) rfl rfl hc6 rfl ar_int (fun _ => rfl) raI (by decide +kernel) (by decide +kernel) (by decide) (by decide) rfl inM tyX12_ok nmX12 (by decide) lf_59 rfl rfl rfl (by decide +kernel) (fun _ => rfl) (fun _ => rfl) (fun ad7 hA7 hc7 => ?_)
  rw [va_up2] at hc7 ⊢
  rw [← hA7 0 (by decide)]
  have e7 := (hA7 0 (by decide)).trans e6
  have C8 := C7.g (a := 1) (b := 12) (by decide) (by decide)
  refine j_aload_n C8 dX12_init_135 rfl rfl ?_
  refine j_bipush (v := 12) C8 dX12_init_136 (by decide) ?_
  refine j_nap (k0 := 0) (j := 21) (t := 0) (N := 12) (fty := .array .int) C8 N dX12_init_138 dX12_init_140 (by decide) (va_up_self ..) rfl rfl hc7 rfl ar_int (fun _ => rfl) raI (by decide +kernel) (by decide +kernel) (by decide) (by decide) rfl inM tyX12_ok nmX12 (by decide) lf_62 rfl rfl rfl (by decide +kernel) (fun _ => rfl) (fun _ => rfl) (fun ad8 hA8 hc8 => ?_)
  rw [va_up2] at hc8 ⊢
  rw [← hA8 0 (by decide)]
  have e8 := (hA8 0 (by decide)).trans e7
  have C9 := C8.g (a := 1) (b := 12) (by decide) (by decide)
  refine j_aload_n C9 dX12_init_143 rfl rfl ?_
  refine j_sipush (v := 192) C9 dX12_init_144 (by decide) ?_
  refine j_nap (k0 := 0) (j := 22) (t := 0) (N := 192) (fty := .array .int) C9 N dX12_init_147 dX12_init_149 (by decide) (va_up_self ..) rfl rfl hc8 rfl ar_int (fun _ => rfl) raI (by decide +kernel) (by decide +kernel) (by decide) (by decide) rfl inM tyX12_ok nmX12 (by decide) lf_65 rfl rfl rfl (by decide +kernel) (fun _ => rfl) (fun _ => rfl) (fun ad9 hA9 hc9 => ?_)
  rw [va_up2] at hc9 ⊢
  rw [← hA9 0 (by decide)]
  have e9 := (hA9 0 (by decide)).trans e8
  have C10 := C9.g (a := 1) (b := 192) (by decide) (by decide)
  refine j_aload_n C10 dX12_init_152 rfl rfl ?_
  refine j_sipush (v := 8428) C10 dX12_init_153 (by decide) ?_
  refine j_nap (k0 := 0) (j := 43) (t := 0) (N := 8428) (fty := .array .int) C10 N dX12_init_156 dX12_init_158 (by decide) (va_up_self ..) rfl rfl hc9 rfl ar_int (fun _ => rfl) raI (by decide +kernel) (by decide +kernel) (by decide) (by decide) rfl inM tyX12_ok nmX12 (by decide) lf_68 rfl rfl rfl (by decide +kernel) (fun _ => rfl) (fun _ => rfl) (fun ad10 hA10 hc10 => ?_)
  rw [va_up2] at hc10 ⊢
  rw [← hA10 0 (by decide)]
  have e10 := (hA10 0 (by decide)).trans e9
  have C11 := C10.g (a := 1) (b := 8428) (by decide) (by decide)
  simp only [xg_xg]
  exact tX12_init_20 C0 N ad10 e10 hc10 K
set_option maxRecDepth 100000 in
set_option maxHeartbeats 4000000 in
theorem tX12_init_0 {X : fj_X} (C0 : FC X Y l0 cX12_init 1 RX12 (mkR 1 49 182923 12) 0 0 none) (N : FN X "<init>") (ad0 : Nat → Nat) (e0 : ad0 0 = ad 0) (hc0 : clS 1 (va_up SMI 0 (.inr (.inl (11, 83, rfL [] [1, 2, 3, 4, 5, 6, 8, 10, 11, 12, 13, 14, 15, 16, 17, 19, 20, 21, 22, 43, 44, 45, 46, 47, 48, 49, 50, 51, 52, 53, 54, 55, 56, 57, 58, 59, 61, 62, 63, 71, 72, 75, 76, 77, 78, 79, 80, 81, 82]))))) (K : ∀ u a b, (∃ ad', u = (50, ad', SMI, hs h00 0 66 (-2)) ∧ ad' 0 = ad 0) → a ≤ 49 → b ≤ 182923 → ∀ pc lv, decode cX12_init pc = .ok (.return_, 1) → FJ (xg X a b) Y u.2.1 u.1 u.2.2.1 u.2.2.2 pc lv []) : FJ (xg X 0 0) Y ad0 1 (va_up SMI 0 (.inr (.inl (11, 83, rfL [] [1, 2, 3, 4, 5, 6, 8, 10, 11, 12, 13, 14, 15, 16, 17, 19, 20, 21, 22, 43, 44, 45, 46, 47, 48, 49, 50, 51, 52, 53, 54, 55, 56, 57, 58, 59, 61, 62, 63, 71, 72, 75, 76, 77, 78, 79, 80, 81, 82])))) (h00) 4 [(0, .ref (ad0 0))] [] := by
  have C1 := C0.g (a := 0) (b := 0) (by decide) (by decide)
  refine j_aload_n C1 dX12_init_4 rfl rfl ?_
  refine j_iconst (v := 4) C1 dX12_init_5 (by decide) ?_
  refine j_nap (k0 := 0) (j := 1) (t := 0) (N := 4) (fty := .array .int) C1 N dX12_init_6 dX12_init_8 (by decide) (va_up_self ..) rfl rfl hc0 rfl ar_int (fun _ => rfl) raI (by decide +kernel) (by decide +kernel) (by decide) (by decide) rfl inM tyX12_ok nmX12 (by decide) lf_7 rfl rfl rfl (by decide +kernel) (fun _ => rfl) (fun _ => rfl) (fun ad1 hA1 hc1 => ?_)
  rw [va_up2] at hc1 ⊢
  rw [← hA1 0 (by decide)]
  have e1 := (hA1 0 (by decide)).trans e0
  have C2 := C1.g (a := 1) (b := 4) (by decide) (by decide)
  refine j_aload_n C2 dX12_init_11 rfl rfl ?_
  refine j_bipush (v := 96) C2 dX12_init_12 (by decide) ?_
  refine j_nap (k0 := 0) (j := 2) (t := 0) (N := 96) (fty := .array .int) C2 N dX12_init_14 dX12_init_16 (by decide) (va_up_self ..) rfl rfl hc1 rfl ar_int (fun _ => rfl) raI (by decide +kernel) (by decide +kernel) (by decide) (by decide) rfl inM tyX12_ok nmX12 (by decide) lf_13 rfl rfl rfl (by decide +kernel) (fun _ => rfl) (fun _ => rfl) (fun ad2 hA2 hc2 => ?_)
  rw [va_up2] at hc2 ⊢
  rw [← hA2 0 (by decide)]
  have e2 := (hA2 0 (by decide)).trans e1
  have C3 := C2.g (a := 1) (b := 96) (by decide) (by decide)
  refine j_aload_n C3 dX12_init_19 rfl rfl ?_
  refine j_bipush (v := 96) C3 dX12_init_20 (by decide) ?_
  refine j_nap (k0 := 0) (j := 3) (t := 0) (N := 96) (fty := .array .int) C3 N dX12_init_22 dX12_init_24 (by decide) (va_up_self ..) rfl rfl hc2 rfl ar_int (fun _ => rfl) raI (by decide +kernel) (by decide +kernel) (by decide) (by decide) rfl inM tyX12_ok nmX12 (by decide) lf_16 rfl rfl rfl (by decide +kernel) (fun _ => rfl) (fun _ => rfl) (fun ad3 hA3 hc3 => ?_)
  rw [va_up2] at hc3 ⊢
  rw [← hA3 0 (by decide)]
  have e3 := (hA3 0 (by decide)).trans e2
  have C4 := C3.g (a := 1) (b := 96) (by decide) (by decide)
  refine j_aload_n C4 dX12_init_27 rfl rfl ?_
  refine j_bipush (v := 96) C4 dX12_init_28 (by decide) ?_
  refine j_nap (k0 := 0) (j := 4) (t := 0) (N := 96) (fty := .array .int) C4 N dX12_init_30 dX12_init_32 (by decide) (va_up_self ..) rfl rfl hc3 rfl ar_int (fun _ => rfl) raI (by decide +kernel) (by decide +kernel) (by decide) (by decide) rfl inM tyX12_ok nmX12 (by decide) lf_19 rfl rfl rfl (by decide +kernel) (fun _ => rfl) (fun _ => rfl) (fun ad4 hA4 hc4 => ?_)
  rw [va_up2] at hc4 ⊢
  rw [← hA4 0 (by decide)]
  have e4 := (hA4 0 (by decide)).trans e3
  have C5 := C4.g (a := 1) (b := 96) (by decide) (by decide)
  refine j_aload_n C5 dX12_init_35 rfl rfl ?_
  refine j_bipush (v := 96) C5 dX12_init_36 (by decide) ?_
  refine j_nap (k0 := 0) (j := 5) (t := 0) (N := 96) (fty := .array .int) C5 N dX12_init_38 dX12_init_40 (by decide) (va_up_self ..) rfl rfl hc4 rfl ar_int (fun _ => rfl) raI (by decide +kernel) (by decide +kernel) (by decide) (by decide) rfl inM tyX12_ok nmX12 (by decide) lf_22 rfl rfl rfl (by decide +kernel) (fun _ => rfl) (fun _ => rfl) (fun ad5 hA5 hc5 => ?_)
  rw [va_up2] at hc5 ⊢
  rw [← hA5 0 (by decide)]
  have e5 := (hA5 0 (by decide)).trans e4
  have C6 := C5.g (a := 1) (b := 96) (by decide) (by decide)
  refine j_aload_n C6 dX12_init_43 rfl rfl ?_
  refine j_bipush (v := 12) C6 dX12_init_44 (by decide) ?_
  refine j_nap (k0 := 0) (j := 6) (t := 0) (N := 12) (fty := .array .int) C6 N dX12_init_46 dX12_init_48 (by decide) (va_up_self ..) rfl rfl hc5 rfl ar_int (fun _ => rfl) raI (by decide +kernel) (by decide +kernel) (by decide) (by decide) rfl inM tyX12_ok nmX12 (by decide) lf_25 rfl rfl rfl (by decide +kernel) (fun _ => rfl) (fun _ => rfl) (fun ad6 hA6 hc6 => ?_)
  rw [va_up2] at hc6 ⊢
  rw [← hA6 0 (by decide)]
  have e6 := (hA6 0 (by decide)).trans e5
  have C7 := C6.g (a := 1) (b := 12) (by decide) (by decide)
  refine j_aload_n C7 dX12_init_51 rfl rfl ?_
  refine j_bipush (v := 30) C7 dX12_init_52 (by decide) ?_
  refine j_nap (k0 := 0) (j := 8) (t := 0) (N := 30) (fty := .array .int) C7 N dX12_init_54 dX12_init_56 (by decide) (va_up_self ..) rfl rfl hc6 rfl ar_int (fun _ => rfl) raI (by decide +kernel) (by decide +kernel) (by decide) (by decide) rfl inM tyX12_ok nmX12 (by decide) lf_28 rfl rfl rfl (by decide +kernel) (fun _ => rfl) (fun _ => rfl) (fun ad7 hA7 hc7 => ?_)
  rw [va_up2] at hc7 ⊢
  rw [← hA7 0 (by decide)]
  have e7 := (hA7 0 (by decide)).trans e6
  have C8 := C7.g (a := 1) (b := 30) (by decide) (by decide)
  refine j_aload_n C8 dX12_init_59 rfl rfl ?_
  refine j_bipush (v := 40) C8 dX12_init_60 (by decide) ?_
  refine j_nap (k0 := 0) (j := 10) (t := 0) (N := 40) (fty := .array .int) C8 N dX12_init_62 dX12_init_64 (by decide) (va_up_self ..) rfl rfl hc7 rfl ar_int (fun _ => rfl) raI (by decide +kernel) (by decide +kernel) (by decide) (by decide) rfl inM tyX12_ok nmX12 (by decide) lf_31 rfl rfl rfl (by decide +kernel) (fun _ => rfl) (fun _ => rfl) (fun ad8 hA8 hc8 => ?_)
  rw [va_up2] at hc8 ⊢
  rw [← hA8 0 (by decide)]
  have e8 := (hA8 0 (by decide)).trans e7
  have C9 := C8.g (a := 1) (b := 40) (by decide) (by decide)
  refine j_aload_n C9 dX12_init_67 rfl rfl ?_
  refine j_bipush (v := 40) C9 dX12_init_68 (by decide) ?_
  refine j_nap (k0 := 0) (j := 11) (t := 0) (N := 40) (fty := .array .int) C9 N dX12_init_70 dX12_init_72 (by decide) (va_up_self ..) rfl rfl hc8 rfl ar_int (fun _ => rfl) raI (by decide +kernel) (by decide +kernel) (by decide) (by decide) rfl inM tyX12_ok nmX12 (by decide) lf_34 rfl rfl rfl (by decide +kernel) (fun _ => rfl) (fun _ => rfl) (fun ad9 hA9 hc9 => ?_)
  rw [va_up2] at hc9 ⊢
  rw [← hA9 0 (by decide)]
  have e9 := (hA9 0 (by decide)).trans e8
  have C10 := C9.g (a := 1) (b := 40) (by decide) (by decide)
  refine j_aload_n C10 dX12_init_75 rfl rfl ?_
  refine j_bipush (v := 28) C10 dX12_init_76 (by decide) ?_
  refine j_nap (k0 := 0) (j := 12) (t := 0) (N := 28) (fty := .array .int) C10 N dX12_init_78 dX12_init_80 (by decide) (va_up_self ..) rfl rfl hc9 rfl ar_int (fun _ => rfl) raI (by decide +kernel) (by decide +kernel) (by decide) (by decide) rfl inM tyX12_ok nmX12 (by decide) lf_37 rfl rfl rfl (by decide +kernel) (fun _ => rfl) (fun _ => rfl) (fun ad10 hA10 hc10 => ?_)
  rw [va_up2] at hc10 ⊢
  rw [← hA10 0 (by decide)]
  have e10 := (hA10 0 (by decide)).trans e9
  have C11 := C10.g (a := 1) (b := 28) (by decide) (by decide)
  simp only [xg_xg]
  exact tX12_init_10 C0 N ad10 e10 hc10 K
theorem GX12_init : GM l0 yX12_init (.code yX12_init cX12_init 1 none) (mkR 1 49 182923 12) Y ad 1 (va_up SMI 0 (.inr (.inl (11, 83, rfL [] [1, 2, 3, 4, 5, 6, 8, 10, 11, 12, 13, 14, 15, 16, 17, 19, 20, 21, 22, 43, 44, 45, 46, 47, 48, 49, 50, 51, 52, 53, 54, 55, 56, 57, 58, 59, 61, 62, 63, 71, 72, 75, 76, 77, 78, 79, 80, 81, 82])))) h00 [.ref (ad 0)] (gQv Y ad 1 (va_up SMI 0 (.inr (.inl (11, 83, rfL [] [1, 2, 3, 4, 5, 6, 8, 10, 11, 12, 13, 14, 15, 16, 17, 19, 20, 21, 22, 43, 44, 45, 46, 47, 48, 49, 50, 51, 52, 53, 54, 55, 56, 57, 58, 59, 61, 62, 63, 71, 72, 75, 76, 77, 78, 79, 80, 81, 82])))) h00 (fun u => ∃ ad', u = (50, ad', SMI, hs h00 0 66 (-2)) ∧ ad' 0 = ad 0)) := met_gv (by decide) (Nat.le_of_ble_eq_true rfl) (fun X C E N K => by
  refine j_vl (lv' := [(0, .ref (ad 0))]) ?_ ⟨rfl, trivial⟩
  have hc0 : clS 1 (va_up SMI 0 (.inr (.inl (11, 83, rfL [] [1, 2, 3, 4, 5, 6, 8, 10, 11, 12, 13, 14, 15, 16, 17, 19, 20, 21, 22, 43, 44, 45, 46, 47, 48, 49, 50, 51, 52, 53, 54, 55, 56, 57, 58, 59, 61, 62, 63, 71, 72, 75, 76, 77, 78, 79, 80, 81, 82])))) := fun k hk => by
    have e : k = 0 := by omega
    subst e
    rw [va_up_self]
    exact rfL_null
  refine j_aload_n C dX12_init_0 rfl rfl ?_
  refine j_objInit C dX12_init_1 lo_RX12_1 oi_i oi_c (by decide) (by decide) ?_
  exact fj_xg1 (tX12_init_0 C N ad rfl hc0 K))
end INITM
