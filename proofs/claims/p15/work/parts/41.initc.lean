/-! THE CLASS'S CONSTRUCTORS -/
section INITC
variable {l0 : Launch} {Y : fj_Y} {ad : Nat → Nat} {n : Nat} {S : ph_S} {h : ph_H}
set_option maxRecDepth 100000 in
theorem GX5_init {k0 : Nat}  (hk : k0 < n)  (hS : S k0 = .inr (.inl (4, 8, rfL [] [0, 1, 2, 3, 4, 5]))) (hcs : clS n S) (f0 : S (n) = .inl (0, 4)) (f1 : S (n + 1) = .inl (0, 384)) (f2 : S (n + 2) = .inl (0, 12)) (f3 : S (n + 3) = .inl (0, 30)) (f4 : S (n + 4) = .inl (0, 40)) (f5 : S (n + 5) = .inl (0, 40)) (g : ∀ i, i < 6 → h (n + i) = fun _ => 0) : GM l0 yX5_init (.code yX5_init cX5_init 1 none) (mkR 1 6 510 12) Y ad n S h [.ref (ad k0)] (gQv Y ad n S h (fun u => ∃ ad', u = (n + 6, ad', va_up S k0 (.inr (.inl (4, 8, rfL [(5, n + 5), (4, n + 4), (3, n + 3), (2, n + 2), (1, n + 1), (0, n)] []))), h) ∧ (∀ k, k < n → ad' k = ad k) ∧ clS (n + 6) (va_up S k0 (.inr (.inl (4, 8, rfL [(5, n + 5), (4, n + 4), (3, n + 3), (2, n + 2), (1, n + 1), (0, n)] [])))))) := met_gv (by decide) (Nat.le_of_ble_eq_true rfl) (fun X C E N K => by
  refine j_vl (lv' := [(0, .ref (ad k0))]) ?_ ⟨rfl, trivial⟩
  refine j_aload_n C dX5_init_0 rfl rfl ?_
  refine j_objInit C dX5_init_1 lo_RX5_3 oi_i oi_c (by decide) (by decide) ?_
  refine j_aload_n C dX5_init_4 rfl rfl ?_
  refine j_iconst (v := 4) C dX5_init_5 (by decide) ?_
  refine j_nap (k0 := k0) (j := 0) (t := 0) (N := 4) (fty := .array .int) C N dX5_init_6 dX5_init_8 (by omega) hS f0 (g 0 (by decide)) hcs rfl ar_int (fun _ => rfl) raI (by decide +kernel) (by decide) (by decide) (by decide) rfl inX5 tyX5_ok nmX5 (by decide) lfRX5_9 rfl rfl rfl (by decide +kernel) (fun _ => rfl) (fun _ => rfl) (fun ad1 hA1 hc1 => ?_)
  rw [← hA1 k0 (by omega)]
  have C1 := C.g (a := 1) (b := 4) (by decide) (by decide)
  have hS1 : va_up S k0 (.inr (.inl (4, 8, rfL [(0, n)] [1, 2, 3, 4, 5]))) k0 = .inr (.inl (4, 8, rfL [(0, n)] [1, 2, 3, 4, 5])) := va_up_self ..
  refine j_aload_n C1 dX5_init_11 rfl rfl ?_
  refine j_sipush (v := 384) C1 dX5_init_12 (by decide) ?_
  refine j_nap (k0 := k0) (j := 1) (t := 0) (N := 384) (fty := .array .int) C1 N dX5_init_15 dX5_init_17 (by omega) hS1 (by rw [va_up_ne _ _ (by omega)]; exact f1) (g 1 (by decide)) hc1 rfl ar_int (fun _ => rfl) raI (by decide +kernel) (by decide) (by decide) (by decide) rfl inX5 tyX5_ok nmX5 (by decide) lfRX5_15 rfl rfl rfl (by decide +kernel) (fun _ => rfl) (fun _ => rfl) (fun ad2 hA2 hc2 => ?_)
  rw [va_up2] at hc2 ⊢
  rw [← hA2 k0 (by omega)]
  have C2 := C1.g (a := 1) (b := 384) (by decide) (by decide)
  have hS2 : va_up S k0 (.inr (.inl (4, 8, rfL [(1, n + 1), (0, n)] [2, 3, 4, 5]))) k0 = .inr (.inl (4, 8, rfL [(1, n + 1), (0, n)] [2, 3, 4, 5])) := va_up_self ..
  refine j_aload_n C2 dX5_init_20 rfl rfl ?_
  refine j_bipush (v := 12) C2 dX5_init_21 (by decide) ?_
  refine j_nap (k0 := k0) (j := 2) (t := 0) (N := 12) (fty := .array .int) C2 N dX5_init_23 dX5_init_25 (by omega) hS2 (by rw [va_up_ne _ _ (by omega)]; exact f2) (g 2 (by decide)) hc2 rfl ar_int (fun _ => rfl) raI (by decide +kernel) (by decide) (by decide) (by decide) rfl inX5 tyX5_ok nmX5 (by decide) lfRX5_18 rfl rfl rfl (by decide +kernel) (fun _ => rfl) (fun _ => rfl) (fun ad3 hA3 hc3 => ?_)
  rw [va_up2] at hc3 ⊢
  rw [← hA3 k0 (by omega)]
  have C3 := C2.g (a := 1) (b := 12) (by decide) (by decide)
  have hS3 : va_up S k0 (.inr (.inl (4, 8, rfL [(2, n + 2), (1, n + 1), (0, n)] [3, 4, 5]))) k0 = .inr (.inl (4, 8, rfL [(2, n + 2), (1, n + 1), (0, n)] [3, 4, 5])) := va_up_self ..
  refine j_aload_n C3 dX5_init_28 rfl rfl ?_
  refine j_bipush (v := 30) C3 dX5_init_29 (by decide) ?_
  refine j_nap (k0 := k0) (j := 3) (t := 0) (N := 30) (fty := .array .int) C3 N dX5_init_31 dX5_init_33 (by omega) hS3 (by rw [va_up_ne _ _ (by omega)]; exact f3) (g 3 (by decide)) hc3 rfl ar_int (fun _ => rfl) raI (by decide +kernel) (by decide) (by decide) (by decide) rfl inX5 tyX5_ok nmX5 (by decide) lfRX5_21 rfl rfl rfl (by decide +kernel) (fun _ => rfl) (fun _ => rfl) (fun ad4 hA4 hc4 => ?_)
  rw [va_up2] at hc4 ⊢
  rw [← hA4 k0 (by omega)]
  have C4 := C3.g (a := 1) (b := 30) (by decide) (by decide)
  have hS4 : va_up S k0 (.inr (.inl (4, 8, rfL [(3, n + 3), (2, n + 2), (1, n + 1), (0, n)] [4, 5]))) k0 = .inr (.inl (4, 8, rfL [(3, n + 3), (2, n + 2), (1, n + 1), (0, n)] [4, 5])) := va_up_self ..
  refine j_aload_n C4 dX5_init_36 rfl rfl ?_
  refine j_bipush (v := 40) C4 dX5_init_37 (by decide) ?_
  refine j_nap (k0 := k0) (j := 4) (t := 0) (N := 40) (fty := .array .int) C4 N dX5_init_39 dX5_init_41 (by omega) hS4 (by rw [va_up_ne _ _ (by omega)]; exact f4) (g 4 (by decide)) hc4 rfl ar_int (fun _ => rfl) raI (by decide +kernel) (by decide) (by decide) (by decide) rfl inX5 tyX5_ok nmX5 (by decide) lfRX5_24 rfl rfl rfl (by decide +kernel) (fun _ => rfl) (fun _ => rfl) (fun ad5 hA5 hc5 => ?_)
  rw [va_up2] at hc5 ⊢
  rw [← hA5 k0 (by omega)]
  have C5 := C4.g (a := 1) (b := 40) (by decide) (by decide)
  have hS5 : va_up S k0 (.inr (.inl (4, 8, rfL [(4, n + 4), (3, n + 3), (2, n + 2), (1, n + 1), (0, n)] [5]))) k0 = .inr (.inl (4, 8, rfL [(4, n + 4), (3, n + 3), (2, n + 2), (1, n + 1), (0, n)] [5])) := va_up_self ..
  refine j_aload_n C5 dX5_init_44 rfl rfl ?_
  refine j_bipush (v := 40) C5 dX5_init_45 (by decide) ?_
  refine j_nap (k0 := k0) (j := 5) (t := 0) (N := 40) (fty := .array .int) C5 N dX5_init_47 dX5_init_49 (by omega) hS5 (by rw [va_up_ne _ _ (by omega)]; exact f5) (g 5 (by decide)) hc5 rfl ar_int (fun _ => rfl) raI (by decide +kernel) (by decide) (by decide) (by decide) rfl inX5 tyX5_ok nmX5 (by decide) lfRX5_27 rfl rfl rfl (by decide +kernel) (fun _ => rfl) (fun _ => rfl) (fun ad6 hA6 hc6 => ?_)
  rw [va_up2] at hc6 ⊢
  rw [← hA6 k0 (by omega)]
  have C6 := C5.g (a := 1) (b := 40) (by decide) (by decide)
  have hS6 : va_up S k0 (.inr (.inl (4, 8, rfL [(5, n + 5), (4, n + 4), (3, n + 3), (2, n + 2), (1, n + 1), (0, n)] []))) k0 = .inr (.inl (4, 8, rfL [(5, n + 5), (4, n + 4), (3, n + 3), (2, n + 2), (1, n + 1), (0, n)] [])) := va_up_self ..
  simp only [xg_xg]
  exact K (n + 6, ad6, va_up S k0 (.inr (.inl (4, 8, rfL [(5, n + 5), (4, n + 4), (3, n + 3), (2, n + 2), (1, n + 1), (0, n)] []))), h) 6 510 ⟨ad6, rfl, fun k hk => ((hA6 k (by omega)).trans ((hA5 k (by omega)).trans ((hA4 k (by omega)).trans ((hA3 k (by omega)).trans ((hA2 k (by omega)).trans (hA1 k (by omega))))))), hc6⟩ (by decide) (by decide) _ _ dX5_init_52)
set_option maxRecDepth 100000 in
theorem GX3_init {k0 : Nat} {pp : Nat} (hk : k0 < n) (hpp : pp < n) (hS : S k0 = .inr (.inl (2, 18, rfL [] [0, 1, 2, 3, 4, 5, 6, 7, 8, 9]))) (hcs : clS n S) (f0 : S (n) = .inl (0, 28)) (f1 : S (n + 1) = .inl (0, 28)) (f2 : S (n + 2) = .inl (0, 4)) (f3 : S (n + 3) = .inl (0, 4)) (f4 : S (n + 4) = .inl (0, 4)) (f5 : S (n + 5) = .inl (0, 12)) (f6 : S (n + 6) = .inl (0, 12)) (f7 : S (n + 7) = .inl (0, 12)) (f8 : S (n + 8) = .inl (0, 192)) (g : ∀ i, i < 9 → h (n + i) = fun _ => 0) : GM l0 yX3_init (.code yX3_init cX3_init 2 none) (mkR 1 9 296 12) Y ad n S h [.ref (ad k0), .ref (ad pp)] (gQv Y ad n S h (fun u => ∃ ad', u = (n + 9, ad', va_up S k0 (.inr (.inl (2, 18, rfL [(9, pp), (8, n + 8), (7, n + 7), (6, n + 6), (5, n + 5), (4, n + 4), (3, n + 3), (2, n + 2), (1, n + 1), (0, n)] []))), h) ∧ (∀ k, k < n → ad' k = ad k) ∧ clS (n + 9) (va_up S k0 (.inr (.inl (2, 18, rfL [(9, pp), (8, n + 8), (7, n + 7), (6, n + 6), (5, n + 5), (4, n + 4), (3, n + 3), (2, n + 2), (1, n + 1), (0, n)] [])))))) := met_gv (by decide) (Nat.le_of_ble_eq_true rfl) (fun X C E N K => by
  refine j_vl (lv' := [(0, .ref (ad k0)), (1, .ref (ad pp))]) ?_ ⟨rfl, rfl, trivial⟩
  refine j_aload_n C dX3_init_0 rfl rfl ?_
  refine j_objInit C dX3_init_1 lo_RX3_3 oi_i oi_c (by decide) (by decide) ?_
  refine j_aload_n C dX3_init_4 rfl rfl ?_
  refine j_bipush (v := 28) C dX3_init_5 (by decide) ?_
  refine j_nap (k0 := k0) (j := 0) (t := 0) (N := 28) (fty := .array .int) C N dX3_init_7 dX3_init_9 (by omega) hS f0 (g 0 (by decide)) hcs rfl ar_int (fun _ => rfl) raI (by decide +kernel) (by decide) (by decide) (by decide) rfl inX3 tyX3_ok nmX3 (by decide) lfRX3_9 rfl rfl rfl (by decide +kernel) (fun _ => rfl) (fun _ => rfl) (fun ad1 hA1 hc1 => ?_)
  rw [← hA1 k0 (by omega), ← hA1 pp (by omega)]
  have C1 := C.g (a := 1) (b := 28) (by decide) (by decide)
  have hS1 : va_up S k0 (.inr (.inl (2, 18, rfL [(0, n)] [1, 2, 3, 4, 5, 6, 7, 8, 9]))) k0 = .inr (.inl (2, 18, rfL [(0, n)] [1, 2, 3, 4, 5, 6, 7, 8, 9])) := va_up_self ..
  refine j_aload_n C1 dX3_init_12 rfl rfl ?_
  refine j_bipush (v := 28) C1 dX3_init_13 (by decide) ?_
  refine j_nap (k0 := k0) (j := 1) (t := 0) (N := 28) (fty := .array .int) C1 N dX3_init_15 dX3_init_17 (by omega) hS1 (by rw [va_up_ne _ _ (by omega)]; exact f1) (g 1 (by decide)) hc1 rfl ar_int (fun _ => rfl) raI (by decide +kernel) (by decide) (by decide) (by decide) rfl inX3 tyX3_ok nmX3 (by decide) lfRX3_15 rfl rfl rfl (by decide +kernel) (fun _ => rfl) (fun _ => rfl) (fun ad2 hA2 hc2 => ?_)
  rw [va_up2] at hc2 ⊢
  rw [← hA2 k0 (by omega), ← hA2 pp (by omega)]
  have C2 := C1.g (a := 1) (b := 28) (by decide) (by decide)
  have hS2 : va_up S k0 (.inr (.inl (2, 18, rfL [(1, n + 1), (0, n)] [2, 3, 4, 5, 6, 7, 8, 9]))) k0 = .inr (.inl (2, 18, rfL [(1, n + 1), (0, n)] [2, 3, 4, 5, 6, 7, 8, 9])) := va_up_self ..
  refine j_aload_n C2 dX3_init_20 rfl rfl ?_
  refine j_iconst (v := 4) C2 dX3_init_21 (by decide) ?_
  refine j_nap (k0 := k0) (j := 2) (t := 0) (N := 4) (fty := .array .int) C2 N dX3_init_22 dX3_init_24 (by omega) hS2 (by rw [va_up_ne _ _ (by omega)]; exact f2) (g 2 (by decide)) hc2 rfl ar_int (fun _ => rfl) raI (by decide +kernel) (by decide) (by decide) (by decide) rfl inX3 tyX3_ok nmX3 (by decide) lfRX3_18 rfl rfl rfl (by decide +kernel) (fun _ => rfl) (fun _ => rfl) (fun ad3 hA3 hc3 => ?_)
  rw [va_up2] at hc3 ⊢
  rw [← hA3 k0 (by omega), ← hA3 pp (by omega)]
  have C3 := C2.g (a := 1) (b := 4) (by decide) (by decide)
  have hS3 : va_up S k0 (.inr (.inl (2, 18, rfL [(2, n + 2), (1, n + 1), (0, n)] [3, 4, 5, 6, 7, 8, 9]))) k0 = .inr (.inl (2, 18, rfL [(2, n + 2), (1, n + 1), (0, n)] [3, 4, 5, 6, 7, 8, 9])) := va_up_self ..
  refine j_aload_n C3 dX3_init_27 rfl rfl ?_
  refine j_iconst (v := 4) C3 dX3_init_28 (by decide) ?_
  refine j_nap (k0 := k0) (j := 3) (t := 0) (N := 4) (fty := .array .int) C3 N dX3_init_29 dX3_init_31 (by omega) hS3 (by rw [va_up_ne _ _ (by omega)]; exact f3) (g 3 (by decide)) hc3 rfl ar_int (fun _ => rfl) raI (by decide +kernel) (by decide) (by decide) (by decide) rfl inX3 tyX3_ok nmX3 (by decide) lfRX3_21 rfl rfl rfl (by decide +kernel) (fun _ => rfl) (fun _ => rfl) (fun ad4 hA4 hc4 => ?_)
  rw [va_up2] at hc4 ⊢
  rw [← hA4 k0 (by omega), ← hA4 pp (by omega)]
  have C4 := C3.g (a := 1) (b := 4) (by decide) (by decide)
  have hS4 : va_up S k0 (.inr (.inl (2, 18, rfL [(3, n + 3), (2, n + 2), (1, n + 1), (0, n)] [4, 5, 6, 7, 8, 9]))) k0 = .inr (.inl (2, 18, rfL [(3, n + 3), (2, n + 2), (1, n + 1), (0, n)] [4, 5, 6, 7, 8, 9])) := va_up_self ..
  refine j_aload_n C4 dX3_init_34 rfl rfl ?_
  refine j_iconst (v := 4) C4 dX3_init_35 (by decide) ?_
  refine j_nap (k0 := k0) (j := 4) (t := 0) (N := 4) (fty := .array .int) C4 N dX3_init_36 dX3_init_38 (by omega) hS4 (by rw [va_up_ne _ _ (by omega)]; exact f4) (g 4 (by decide)) hc4 rfl ar_int (fun _ => rfl) raI (by decide +kernel) (by decide) (by decide) (by decide) rfl inX3 tyX3_ok nmX3 (by decide) lfRX3_24 rfl rfl rfl (by decide +kernel) (fun _ => rfl) (fun _ => rfl) (fun ad5 hA5 hc5 => ?_)
  rw [va_up2] at hc5 ⊢
  rw [← hA5 k0 (by omega), ← hA5 pp (by omega)]
  have C5 := C4.g (a := 1) (b := 4) (by decide) (by decide)
  have hS5 : va_up S k0 (.inr (.inl (2, 18, rfL [(4, n + 4), (3, n + 3), (2, n + 2), (1, n + 1), (0, n)] [5, 6, 7, 8, 9]))) k0 = .inr (.inl (2, 18, rfL [(4, n + 4), (3, n + 3), (2, n + 2), (1, n + 1), (0, n)] [5, 6, 7, 8, 9])) := va_up_self ..
  refine j_aload_n C5 dX3_init_41 rfl rfl ?_
  refine j_bipush (v := 12) C5 dX3_init_42 (by decide) ?_
  refine j_nap (k0 := k0) (j := 5) (t := 0) (N := 12) (fty := .array .int) C5 N dX3_init_44 dX3_init_46 (by omega) hS5 (by rw [va_up_ne _ _ (by omega)]; exact f5) (g 5 (by decide)) hc5 rfl ar_int (fun _ => rfl) raI (by decide +kernel) (by decide) (by decide) (by decide) rfl inX3 tyX3_ok nmX3 (by decide) lfRX3_27 rfl rfl rfl (by decide +kernel) (fun _ => rfl) (fun _ => rfl) (fun ad6 hA6 hc6 => ?_)
  rw [va_up2] at hc6 ⊢
  rw [← hA6 k0 (by omega), ← hA6 pp (by omega)]
  have C6 := C5.g (a := 1) (b := 12) (by decide) (by decide)
  have hS6 : va_up S k0 (.inr (.inl (2, 18, rfL [(5, n + 5), (4, n + 4), (3, n + 3), (2, n + 2), (1, n + 1), (0, n)] [6, 7, 8, 9]))) k0 = .inr (.inl (2, 18, rfL [(5, n + 5), (4, n + 4), (3, n + 3), (2, n + 2), (1, n + 1), (0, n)] [6, 7, 8, 9])) := va_up_self ..
  refine j_aload_n C6 dX3_init_49 rfl rfl ?_
  refine j_bipush (v := 12) C6 dX3_init_50 (by decide) ?_
  refine j_nap (k0 := k0) (j := 6) (t := 0) (N := 12) (fty := .array .int) C6 N dX3_init_52 dX3_init_54 (by omega) hS6 (by rw [va_up_ne _ _ (by omega)]; exact f6) (g 6 (by decide)) hc6 rfl ar_int (fun _ => rfl) raI (by decide +kernel) (by decide) (by decide) (by decide) rfl inX3 tyX3_ok nmX3 (by decide) lfRX3_30 rfl rfl rfl (by decide +kernel) (fun _ => rfl) (fun _ => rfl) (fun ad7 hA7 hc7 => ?_)
  rw [va_up2] at hc7 ⊢
  rw [← hA7 k0 (by omega), ← hA7 pp (by omega)]
  have C7 := C6.g (a := 1) (b := 12) (by decide) (by decide)
  have hS7 : va_up S k0 (.inr (.inl (2, 18, rfL [(6, n + 6), (5, n + 5), (4, n + 4), (3, n + 3), (2, n + 2), (1, n + 1), (0, n)] [7, 8, 9]))) k0 = .inr (.inl (2, 18, rfL [(6, n + 6), (5, n + 5), (4, n + 4), (3, n + 3), (2, n + 2), (1, n + 1), (0, n)] [7, 8, 9])) := va_up_self ..
  refine j_aload_n C7 dX3_init_57 rfl rfl ?_
  refine j_bipush (v := 12) C7 dX3_init_58 (by decide) ?_
  refine j_nap (k0 := k0) (j := 7) (t := 0) (N := 12) (fty := .array .int) C7 N dX3_init_60 dX3_init_62 (by omega) hS7 (by rw [va_up_ne _ _ (by omega)]; exact f7) (g 7 (by decide)) hc7 rfl ar_int (fun _ => rfl) raI (by decide +kernel) (by decide) (by decide) (by decide) rfl inX3 tyX3_ok nmX3 (by decide) lfRX3_33 rfl rfl rfl (by decide +kernel) (fun _ => rfl) (fun _ => rfl) (fun ad8 hA8 hc8 => ?_)
  rw [va_up2] at hc8 ⊢
  rw [← hA8 k0 (by omega), ← hA8 pp (by omega)]
  have C8 := C7.g (a := 1) (b := 12) (by decide) (by decide)
  have hS8 : va_up S k0 (.inr (.inl (2, 18, rfL [(7, n + 7), (6, n + 6), (5, n + 5), (4, n + 4), (3, n + 3), (2, n + 2), (1, n + 1), (0, n)] [8, 9]))) k0 = .inr (.inl (2, 18, rfL [(7, n + 7), (6, n + 6), (5, n + 5), (4, n + 4), (3, n + 3), (2, n + 2), (1, n + 1), (0, n)] [8, 9])) := va_up_self ..
  refine j_aload_n C8 dX3_init_65 rfl rfl ?_
  refine j_sipush (v := 192) C8 dX3_init_66 (by decide) ?_
  refine j_nap (k0 := k0) (j := 8) (t := 0) (N := 192) (fty := .array .int) C8 N dX3_init_69 dX3_init_71 (by omega) hS8 (by rw [va_up_ne _ _ (by omega)]; exact f8) (g 8 (by decide)) hc8 rfl ar_int (fun _ => rfl) raI (by decide +kernel) (by decide) (by decide) (by decide) rfl inX3 tyX3_ok nmX3 (by decide) lfRX3_36 rfl rfl rfl (by decide +kernel) (fun _ => rfl) (fun _ => rfl) (fun ad9 hA9 hc9 => ?_)
  rw [va_up2] at hc9 ⊢
  rw [← hA9 k0 (by omega), ← hA9 pp (by omega)]
  have C9 := C8.g (a := 1) (b := 192) (by decide) (by decide)
  have hS9 : va_up S k0 (.inr (.inl (2, 18, rfL [(8, n + 8), (7, n + 7), (6, n + 6), (5, n + 5), (4, n + 4), (3, n + 3), (2, n + 2), (1, n + 1), (0, n)] [9]))) k0 = .inr (.inl (2, 18, rfL [(8, n + 8), (7, n + 7), (6, n + 6), (5, n + 5), (4, n + 4), (3, n + 3), (2, n + 2), (1, n + 1), (0, n)] [9])) := va_up_self ..
  refine j_aload_n C9 dX3_init_74 rfl rfl ?_
  refine j_aload_n C9 dX3_init_75 rfl rfl ?_
  refine j_putr (j := 9) (r := pp) (ty := .object "ReplayBox$Program") C9 dX3_init_76 (by omega) hS9 rfl inX3 tyX3_ok nmX3 (by decide) lfRX3_39 rfl rfl (by decide +kernel) (fun _ => rfl) (fun _ => rfl) ?_
  rw [rfL_put, va_up2]
  have hc9 := hc9.set (k := k0) (rfL_cl0 (j := 9) (r := pp) (by have q := hc9 k0 (by omega); rw [va_up_self] at q; exact q) (by omega))
  rw [va_up2] at hc9
  have hS9 : va_up S k0 (.inr (.inl (2, 18, rfL [(9, pp), (8, n + 8), (7, n + 7), (6, n + 6), (5, n + 5), (4, n + 4), (3, n + 3), (2, n + 2), (1, n + 1), (0, n)] []))) k0 = .inr (.inl (2, 18, rfL [(9, pp), (8, n + 8), (7, n + 7), (6, n + 6), (5, n + 5), (4, n + 4), (3, n + 3), (2, n + 2), (1, n + 1), (0, n)] [])) := va_up_self ..
  simp only [xg_xg]
  exact K (n + 9, ad9, va_up S k0 (.inr (.inl (2, 18, rfL [(9, pp), (8, n + 8), (7, n + 7), (6, n + 6), (5, n + 5), (4, n + 4), (3, n + 3), (2, n + 2), (1, n + 1), (0, n)] []))), h) 9 296 ⟨ad9, rfl, fun k hk => ((hA9 k (by omega)).trans ((hA8 k (by omega)).trans ((hA7 k (by omega)).trans ((hA6 k (by omega)).trans ((hA5 k (by omega)).trans ((hA4 k (by omega)).trans ((hA3 k (by omega)).trans ((hA2 k (by omega)).trans (hA1 k (by omega)))))))))), hc9⟩ (by decide) (by decide) _ _ dX3_init_79)
set_option maxRecDepth 100000 in
theorem GX10_init {k0 : Nat}  (hk : k0 < n)  (hS : S k0 = .inr (.inl (9, 17, rfL [] [0, 1, 2, 3, 4, 5, 6, 7, 8, 9, 10]))) (hcs : clS n S) (f0 : S (n) = .inl (0, 301)) (f1 : S (n + 1) = .inl (0, 301)) (f2 : S (n + 2) = .inl (0, 301)) (f3 : S (n + 3) = .inl (0, 301)) (f4 : S (n + 4) = .inl (0, 301)) (f5 : S (n + 5) = .inl (0, 301)) (f6 : S (n + 6) = .inl (0, 301)) (f7 : S (n + 7) = .inl (0, 301)) (f8 : S (n + 8) = .inl (0, 301)) (f9 : S (n + 9) = .inl (0, 300)) (f10 : S (n + 10) = .inl (0, 300)) (g : ∀ i, i < 11 → h (n + i) = fun _ => 0) : GM l0 yX10_init (.code yX10_init cX10_init 1 none) (mkR 1 11 3309 12) Y ad n S h [.ref (ad k0)] (gQv Y ad n S h (fun u => ∃ ad', u = (n + 11, ad', va_up S k0 (.inr (.inl (9, 17, rfL [(10, n + 10), (9, n + 9), (8, n + 8), (7, n + 7), (6, n + 6), (5, n + 5), (4, n + 4), (3, n + 3), (2, n + 2), (1, n + 1), (0, n)] []))), h) ∧ (∀ k, k < n → ad' k = ad k) ∧ clS (n + 11) (va_up S k0 (.inr (.inl (9, 17, rfL [(10, n + 10), (9, n + 9), (8, n + 8), (7, n + 7), (6, n + 6), (5, n + 5), (4, n + 4), (3, n + 3), (2, n + 2), (1, n + 1), (0, n)] [])))))) := met_gv (by decide) (Nat.le_of_ble_eq_true rfl) (fun X C E N K => by
  refine j_vl (lv' := [(0, .ref (ad k0))]) ?_ ⟨rfl, trivial⟩
  refine j_aload_n C dX10_init_0 rfl rfl ?_
  refine j_objInit C dX10_init_1 lo_RX10_3 oi_i oi_c (by decide) (by decide) ?_
  refine j_aload_n C dX10_init_4 rfl rfl ?_
  refine j_sipush (v := 301) C dX10_init_5 (by decide) ?_
  refine j_nap (k0 := k0) (j := 0) (t := 0) (N := 301) (fty := .array .int) C N dX10_init_8 dX10_init_10 (by omega) hS f0 (g 0 (by decide)) hcs rfl ar_int (fun _ => rfl) raI (by decide +kernel) (by decide) (by decide) (by decide) rfl inX10 tyX10_ok nmX10 (by decide) lfRX10_9 rfl rfl rfl (by decide +kernel) (fun _ => rfl) (fun _ => rfl) (fun ad1 hA1 hc1 => ?_)
  rw [← hA1 k0 (by omega)]
  have C1 := C.g (a := 1) (b := 301) (by decide) (by decide)
  have hS1 : va_up S k0 (.inr (.inl (9, 17, rfL [(0, n)] [1, 2, 3, 4, 5, 6, 7, 8, 9, 10]))) k0 = .inr (.inl (9, 17, rfL [(0, n)] [1, 2, 3, 4, 5, 6, 7, 8, 9, 10])) := va_up_self ..
  refine j_aload_n C1 dX10_init_13 rfl rfl ?_
  refine j_sipush (v := 301) C1 dX10_init_14 (by decide) ?_
  refine j_nap (k0 := k0) (j := 1) (t := 0) (N := 301) (fty := .array .int) C1 N dX10_init_17 dX10_init_19 (by omega) hS1 (by rw [va_up_ne _ _ (by omega)]; exact f1) (g 1 (by decide)) hc1 rfl ar_int (fun _ => rfl) raI (by decide +kernel) (by decide) (by decide) (by decide) rfl inX10 tyX10_ok nmX10 (by decide) lfRX10_15 rfl rfl rfl (by decide +kernel) (fun _ => rfl) (fun _ => rfl) (fun ad2 hA2 hc2 => ?_)
  rw [va_up2] at hc2 ⊢
  rw [← hA2 k0 (by omega)]
  have C2 := C1.g (a := 1) (b := 301) (by decide) (by decide)
  have hS2 : va_up S k0 (.inr (.inl (9, 17, rfL [(1, n + 1), (0, n)] [2, 3, 4, 5, 6, 7, 8, 9, 10]))) k0 = .inr (.inl (9, 17, rfL [(1, n + 1), (0, n)] [2, 3, 4, 5, 6, 7, 8, 9, 10])) := va_up_self ..
  refine j_aload_n C2 dX10_init_22 rfl rfl ?_
  refine j_sipush (v := 301) C2 dX10_init_23 (by decide) ?_
  refine j_nap (k0 := k0) (j := 2) (t := 0) (N := 301) (fty := .array .int) C2 N dX10_init_26 dX10_init_28 (by omega) hS2 (by rw [va_up_ne _ _ (by omega)]; exact f2) (g 2 (by decide)) hc2 rfl ar_int (fun _ => rfl) raI (by decide +kernel) (by decide) (by decide) (by decide) rfl inX10 tyX10_ok nmX10 (by decide) lfRX10_18 rfl rfl rfl (by decide +kernel) (fun _ => rfl) (fun _ => rfl) (fun ad3 hA3 hc3 => ?_)
  rw [va_up2] at hc3 ⊢
  rw [← hA3 k0 (by omega)]
  have C3 := C2.g (a := 1) (b := 301) (by decide) (by decide)
  have hS3 : va_up S k0 (.inr (.inl (9, 17, rfL [(2, n + 2), (1, n + 1), (0, n)] [3, 4, 5, 6, 7, 8, 9, 10]))) k0 = .inr (.inl (9, 17, rfL [(2, n + 2), (1, n + 1), (0, n)] [3, 4, 5, 6, 7, 8, 9, 10])) := va_up_self ..
  refine j_aload_n C3 dX10_init_31 rfl rfl ?_
  refine j_sipush (v := 301) C3 dX10_init_32 (by decide) ?_
  refine j_nap (k0 := k0) (j := 3) (t := 0) (N := 301) (fty := .array .int) C3 N dX10_init_35 dX10_init_37 (by omega) hS3 (by rw [va_up_ne _ _ (by omega)]; exact f3) (g 3 (by decide)) hc3 rfl ar_int (fun _ => rfl) raI (by decide +kernel) (by decide) (by decide) (by decide) rfl inX10 tyX10_ok nmX10 (by decide) lfRX10_21 rfl rfl rfl (by decide +kernel) (fun _ => rfl) (fun _ => rfl) (fun ad4 hA4 hc4 => ?_)
  rw [va_up2] at hc4 ⊢
  rw [← hA4 k0 (by omega)]
  have C4 := C3.g (a := 1) (b := 301) (by decide) (by decide)
  have hS4 : va_up S k0 (.inr (.inl (9, 17, rfL [(3, n + 3), (2, n + 2), (1, n + 1), (0, n)] [4, 5, 6, 7, 8, 9, 10]))) k0 = .inr (.inl (9, 17, rfL [(3, n + 3), (2, n + 2), (1, n + 1), (0, n)] [4, 5, 6, 7, 8, 9, 10])) := va_up_self ..
  refine j_aload_n C4 dX10_init_40 rfl rfl ?_
  refine j_sipush (v := 301) C4 dX10_init_41 (by decide) ?_
  refine j_nap (k0 := k0) (j := 4) (t := 0) (N := 301) (fty := .array .int) C4 N dX10_init_44 dX10_init_46 (by omega) hS4 (by rw [va_up_ne _ _ (by omega)]; exact f4) (g 4 (by decide)) hc4 rfl ar_int (fun _ => rfl) raI (by decide +kernel) (by decide) (by decide) (by decide) rfl inX10 tyX10_ok nmX10 (by decide) lfRX10_24 rfl rfl rfl (by decide +kernel) (fun _ => rfl) (fun _ => rfl) (fun ad5 hA5 hc5 => ?_)
  rw [va_up2] at hc5 ⊢
  rw [← hA5 k0 (by omega)]
  have C5 := C4.g (a := 1) (b := 301) (by decide) (by decide)
  have hS5 : va_up S k0 (.inr (.inl (9, 17, rfL [(4, n + 4), (3, n + 3), (2, n + 2), (1, n + 1), (0, n)] [5, 6, 7, 8, 9, 10]))) k0 = .inr (.inl (9, 17, rfL [(4, n + 4), (3, n + 3), (2, n + 2), (1, n + 1), (0, n)] [5, 6, 7, 8, 9, 10])) := va_up_self ..
  refine j_aload_n C5 dX10_init_49 rfl rfl ?_
  refine j_sipush (v := 301) C5 dX10_init_50 (by decide) ?_
  refine j_nap (k0 := k0) (j := 5) (t := 0) (N := 301) (fty := .array .int) C5 N dX10_init_53 dX10_init_55 (by omega) hS5 (by rw [va_up_ne _ _ (by omega)]; exact f5) (g 5 (by decide)) hc5 rfl ar_int (fun _ => rfl) raI (by decide +kernel) (by decide) (by decide) (by decide) rfl inX10 tyX10_ok nmX10 (by decide) lfRX10_27 rfl rfl rfl (by decide +kernel) (fun _ => rfl) (fun _ => rfl) (fun ad6 hA6 hc6 => ?_)
  rw [va_up2] at hc6 ⊢
  rw [← hA6 k0 (by omega)]
  have C6 := C5.g (a := 1) (b := 301) (by decide) (by decide)
  have hS6 : va_up S k0 (.inr (.inl (9, 17, rfL [(5, n + 5), (4, n + 4), (3, n + 3), (2, n + 2), (1, n + 1), (0, n)] [6, 7, 8, 9, 10]))) k0 = .inr (.inl (9, 17, rfL [(5, n + 5), (4, n + 4), (3, n + 3), (2, n + 2), (1, n + 1), (0, n)] [6, 7, 8, 9, 10])) := va_up_self ..
  refine j_aload_n C6 dX10_init_58 rfl rfl ?_
  refine j_sipush (v := 301) C6 dX10_init_59 (by decide) ?_
  refine j_nap (k0 := k0) (j := 6) (t := 0) (N := 301) (fty := .array .int) C6 N dX10_init_62 dX10_init_64 (by omega) hS6 (by rw [va_up_ne _ _ (by omega)]; exact f6) (g 6 (by decide)) hc6 rfl ar_int (fun _ => rfl) raI (by decide +kernel) (by decide) (by decide) (by decide) rfl inX10 tyX10_ok nmX10 (by decide) lfRX10_30 rfl rfl rfl (by decide +kernel) (fun _ => rfl) (fun _ => rfl) (fun ad7 hA7 hc7 => ?_)
  rw [va_up2] at hc7 ⊢
  rw [← hA7 k0 (by omega)]
  have C7 := C6.g (a := 1) (b := 301) (by decide) (by decide)
  have hS7 : va_up S k0 (.inr (.inl (9, 17, rfL [(6, n + 6), (5, n + 5), (4, n + 4), (3, n + 3), (2, n + 2), (1, n + 1), (0, n)] [7, 8, 9, 10]))) k0 = .inr (.inl (9, 17, rfL [(6, n + 6), (5, n + 5), (4, n + 4), (3, n + 3), (2, n + 2), (1, n + 1), (0, n)] [7, 8, 9, 10])) := va_up_self ..
  refine j_aload_n C7 dX10_init_67 rfl rfl ?_
  refine j_sipush (v := 301) C7 dX10_init_68 (by decide) ?_
  refine j_nap (k0 := k0) (j := 7) (t := 0) (N := 301) (fty := .array .int) C7 N dX10_init_71 dX10_init_73 (by omega) hS7 (by rw [va_up_ne _ _ (by omega)]; exact f7) (g 7 (by decide)) hc7 rfl ar_int (fun _ => rfl) raI (by decide +kernel) (by decide) (by decide) (by decide) rfl inX10 tyX10_ok nmX10 (by decide) lfRX10_33 rfl rfl rfl (by decide +kernel) (fun _ => rfl) (fun _ => rfl) (fun ad8 hA8 hc8 => ?_)
  rw [va_up2] at hc8 ⊢
  rw [← hA8 k0 (by omega)]
  have C8 := C7.g (a := 1) (b := 301) (by decide) (by decide)
  have hS8 : va_up S k0 (.inr (.inl (9, 17, rfL [(7, n + 7), (6, n + 6), (5, n + 5), (4, n + 4), (3, n + 3), (2, n + 2), (1, n + 1), (0, n)] [8, 9, 10]))) k0 = .inr (.inl (9, 17, rfL [(7, n + 7), (6, n + 6), (5, n + 5), (4, n + 4), (3, n + 3), (2, n + 2), (1, n + 1), (0, n)] [8, 9, 10])) := va_up_self ..
  refine j_aload_n C8 dX10_init_76 rfl rfl ?_
  refine j_sipush (v := 301) C8 dX10_init_77 (by decide) ?_
  refine j_nap (k0 := k0) (j := 8) (t := 0) (N := 301) (fty := .array .int) C8 N dX10_init_80 dX10_init_82 (by omega) hS8 (by rw [va_up_ne _ _ (by omega)]; exact f8) (g 8 (by decide)) hc8 rfl ar_int (fun _ => rfl) raI (by decide +kernel) (by decide) (by decide) (by decide) rfl inX10 tyX10_ok nmX10 (by decide) lfRX10_36 rfl rfl rfl (by decide +kernel) (fun _ => rfl) (fun _ => rfl) (fun ad9 hA9 hc9 => ?_)
  rw [va_up2] at hc9 ⊢
  rw [← hA9 k0 (by omega)]
  have C9 := C8.g (a := 1) (b := 301) (by decide) (by decide)
  have hS9 : va_up S k0 (.inr (.inl (9, 17, rfL [(8, n + 8), (7, n + 7), (6, n + 6), (5, n + 5), (4, n + 4), (3, n + 3), (2, n + 2), (1, n + 1), (0, n)] [9, 10]))) k0 = .inr (.inl (9, 17, rfL [(8, n + 8), (7, n + 7), (6, n + 6), (5, n + 5), (4, n + 4), (3, n + 3), (2, n + 2), (1, n + 1), (0, n)] [9, 10])) := va_up_self ..
  refine j_aload_n C9 dX10_init_85 rfl rfl ?_
  refine j_sipush (v := 300) C9 dX10_init_86 (by decide) ?_
  refine j_nap (k0 := k0) (j := 9) (t := 0) (N := 300) (fty := .array .int) C9 N dX10_init_89 dX10_init_91 (by omega) hS9 (by rw [va_up_ne _ _ (by omega)]; exact f9) (g 9 (by decide)) hc9 rfl ar_int (fun _ => rfl) raI (by decide +kernel) (by decide) (by decide) (by decide) rfl inX10 tyX10_ok nmX10 (by decide) lfRX10_39 rfl rfl rfl (by decide +kernel) (fun _ => rfl) (fun _ => rfl) (fun ad10 hA10 hc10 => ?_)
  rw [va_up2] at hc10 ⊢
  rw [← hA10 k0 (by omega)]
  have C10 := C9.g (a := 1) (b := 300) (by decide) (by decide)
  have hS10 : va_up S k0 (.inr (.inl (9, 17, rfL [(9, n + 9), (8, n + 8), (7, n + 7), (6, n + 6), (5, n + 5), (4, n + 4), (3, n + 3), (2, n + 2), (1, n + 1), (0, n)] [10]))) k0 = .inr (.inl (9, 17, rfL [(9, n + 9), (8, n + 8), (7, n + 7), (6, n + 6), (5, n + 5), (4, n + 4), (3, n + 3), (2, n + 2), (1, n + 1), (0, n)] [10])) := va_up_self ..
  refine j_aload_n C10 dX10_init_94 rfl rfl ?_
  refine j_sipush (v := 300) C10 dX10_init_95 (by decide) ?_
  refine j_nap (k0 := k0) (j := 10) (t := 0) (N := 300) (fty := .array .int) C10 N dX10_init_98 dX10_init_100 (by omega) hS10 (by rw [va_up_ne _ _ (by omega)]; exact f10) (g 10 (by decide)) hc10 rfl ar_int (fun _ => rfl) raI (by decide +kernel) (by decide) (by decide) (by decide) rfl inX10 tyX10_ok nmX10 (by decide) lfRX10_42 rfl rfl rfl (by decide +kernel) (fun _ => rfl) (fun _ => rfl) (fun ad11 hA11 hc11 => ?_)
  rw [va_up2] at hc11 ⊢
  rw [← hA11 k0 (by omega)]
  have C11 := C10.g (a := 1) (b := 300) (by decide) (by decide)
  have hS11 : va_up S k0 (.inr (.inl (9, 17, rfL [(10, n + 10), (9, n + 9), (8, n + 8), (7, n + 7), (6, n + 6), (5, n + 5), (4, n + 4), (3, n + 3), (2, n + 2), (1, n + 1), (0, n)] []))) k0 = .inr (.inl (9, 17, rfL [(10, n + 10), (9, n + 9), (8, n + 8), (7, n + 7), (6, n + 6), (5, n + 5), (4, n + 4), (3, n + 3), (2, n + 2), (1, n + 1), (0, n)] [])) := va_up_self ..
  simp only [xg_xg]
  exact K (n + 11, ad11, va_up S k0 (.inr (.inl (9, 17, rfL [(10, n + 10), (9, n + 9), (8, n + 8), (7, n + 7), (6, n + 6), (5, n + 5), (4, n + 4), (3, n + 3), (2, n + 2), (1, n + 1), (0, n)] []))), h) 11 3309 ⟨ad11, rfl, fun k hk => ((hA11 k (by omega)).trans ((hA10 k (by omega)).trans ((hA9 k (by omega)).trans ((hA8 k (by omega)).trans ((hA7 k (by omega)).trans ((hA6 k (by omega)).trans ((hA5 k (by omega)).trans ((hA4 k (by omega)).trans ((hA3 k (by omega)).trans ((hA2 k (by omega)).trans (hA1 k (by omega)))))))))))), hc11⟩ (by decide) (by decide) _ _ dX10_init_103)
set_option maxRecDepth 100000 in
theorem GX4_init {k0 : Nat} {pp : Nat} (hk : k0 < n) (hpp : pp < n) (hS : S k0 = .inr (.inl (3, 7, rfL [] [1, 2, 3, 4, 0]))) (hcs : clS n S) (f0 : S (n) = .inl (0, 1204)) (f1 : S (n + 1) = .inl (0, 16)) (f2 : S (n + 2) = .inl (0, 48)) (f3 : S (n + 3) = .inl (0, 301)) (g : ∀ i, i < 4 → h (n + i) = fun _ => 0) : GM l0 yX4_init (.code yX4_init cX4_init 2 none) (mkR 1 4 1569 12) Y ad n S h [.ref (ad k0), .ref (ad pp)] (gQv Y ad n S h (fun u => ∃ ad', u = (n + 4, ad', va_up S k0 (.inr (.inl (3, 7, rfL [(0, pp), (4, n + 3), (3, n + 2), (2, n + 1), (1, n)] []))), h) ∧ (∀ k, k < n → ad' k = ad k) ∧ clS (n + 4) (va_up S k0 (.inr (.inl (3, 7, rfL [(0, pp), (4, n + 3), (3, n + 2), (2, n + 1), (1, n)] [])))))) := met_gv (by decide) (Nat.le_of_ble_eq_true rfl) (fun X C E N K => by
  refine j_vl (lv' := [(0, .ref (ad k0)), (1, .ref (ad pp))]) ?_ ⟨rfl, rfl, trivial⟩
  refine j_aload_n C dX4_init_0 rfl rfl ?_
  refine j_objInit C dX4_init_1 lo_RX4_3 oi_i oi_c (by decide) (by decide) ?_
  refine j_aload_n C dX4_init_4 rfl rfl ?_
  refine j_sipush (v := 1204) C dX4_init_5 (by decide) ?_
  refine j_nap (k0 := k0) (j := 1) (t := 0) (N := 1204) (fty := .array .int) C N dX4_init_8 dX4_init_10 (by omega) hS f0 (g 0 (by decide)) hcs rfl ar_int (fun _ => rfl) raI (by decide +kernel) (by decide) (by decide) (by decide) rfl inX4 tyX4_ok nmX4 (by decide) lfRX4_9 rfl rfl rfl (by decide +kernel) (fun _ => rfl) (fun _ => rfl) (fun ad1 hA1 hc1 => ?_)
  rw [← hA1 k0 (by omega), ← hA1 pp (by omega)]
  have C1 := C.g (a := 1) (b := 1204) (by decide) (by decide)
  have hS1 : va_up S k0 (.inr (.inl (3, 7, rfL [(1, n)] [2, 3, 4, 0]))) k0 = .inr (.inl (3, 7, rfL [(1, n)] [2, 3, 4, 0])) := va_up_self ..
  refine j_aload_n C1 dX4_init_13 rfl rfl ?_
  refine j_bipush (v := 16) C1 dX4_init_14 (by decide) ?_
  refine j_nap (k0 := k0) (j := 2) (t := 0) (N := 16) (fty := .array .int) C1 N dX4_init_16 dX4_init_18 (by omega) hS1 (by rw [va_up_ne _ _ (by omega)]; exact f1) (g 1 (by decide)) hc1 rfl ar_int (fun _ => rfl) raI (by decide +kernel) (by decide) (by decide) (by decide) rfl inX4 tyX4_ok nmX4 (by decide) lfRX4_15 rfl rfl rfl (by decide +kernel) (fun _ => rfl) (fun _ => rfl) (fun ad2 hA2 hc2 => ?_)
  rw [va_up2] at hc2 ⊢
  rw [← hA2 k0 (by omega), ← hA2 pp (by omega)]
  have C2 := C1.g (a := 1) (b := 16) (by decide) (by decide)
  have hS2 : va_up S k0 (.inr (.inl (3, 7, rfL [(2, n + 1), (1, n)] [3, 4, 0]))) k0 = .inr (.inl (3, 7, rfL [(2, n + 1), (1, n)] [3, 4, 0])) := va_up_self ..
  refine j_aload_n C2 dX4_init_21 rfl rfl ?_
  refine j_bipush (v := 48) C2 dX4_init_22 (by decide) ?_
  refine j_nap (k0 := k0) (j := 3) (t := 0) (N := 48) (fty := .array .int) C2 N dX4_init_24 dX4_init_26 (by omega) hS2 (by rw [va_up_ne _ _ (by omega)]; exact f2) (g 2 (by decide)) hc2 rfl ar_int (fun _ => rfl) raI (by decide +kernel) (by decide) (by decide) (by decide) rfl inX4 tyX4_ok nmX4 (by decide) lfRX4_18 rfl rfl rfl (by decide +kernel) (fun _ => rfl) (fun _ => rfl) (fun ad3 hA3 hc3 => ?_)
  rw [va_up2] at hc3 ⊢
  rw [← hA3 k0 (by omega), ← hA3 pp (by omega)]
  have C3 := C2.g (a := 1) (b := 48) (by decide) (by decide)
  have hS3 : va_up S k0 (.inr (.inl (3, 7, rfL [(3, n + 2), (2, n + 1), (1, n)] [4, 0]))) k0 = .inr (.inl (3, 7, rfL [(3, n + 2), (2, n + 1), (1, n)] [4, 0])) := va_up_self ..
  refine j_aload_n C3 dX4_init_29 rfl rfl ?_
  refine j_sipush (v := 301) C3 dX4_init_30 (by decide) ?_
  refine j_nap (k0 := k0) (j := 4) (t := 0) (N := 301) (fty := .array .int) C3 N dX4_init_33 dX4_init_35 (by omega) hS3 (by rw [va_up_ne _ _ (by omega)]; exact f3) (g 3 (by decide)) hc3 rfl ar_int (fun _ => rfl) raI (by decide +kernel) (by decide) (by decide) (by decide) rfl inX4 tyX4_ok nmX4 (by decide) lfRX4_21 rfl rfl rfl (by decide +kernel) (fun _ => rfl) (fun _ => rfl) (fun ad4 hA4 hc4 => ?_)
  rw [va_up2] at hc4 ⊢
  rw [← hA4 k0 (by omega), ← hA4 pp (by omega)]
  have C4 := C3.g (a := 1) (b := 301) (by decide) (by decide)
  have hS4 : va_up S k0 (.inr (.inl (3, 7, rfL [(4, n + 3), (3, n + 2), (2, n + 1), (1, n)] [0]))) k0 = .inr (.inl (3, 7, rfL [(4, n + 3), (3, n + 2), (2, n + 1), (1, n)] [0])) := va_up_self ..
  refine j_aload_n C4 dX4_init_38 rfl rfl ?_
  refine j_aload_n C4 dX4_init_39 rfl rfl ?_
  refine j_putFr (j := 0) (r := pp) (ty := .object "ReplayBox$Trace") C4 N dX4_init_40 (by omega) hS4 rfl inX4 tyX4_ok nmX4 (by decide) lfRX4_24 rfl rfl rfl (by decide +kernel) (fun _ => rfl) (fun _ => rfl) ?_
  rw [rfL_put, va_up2]
  have hc4 := hc4.set (k := k0) (rfL_cl0 (j := 0) (r := pp) (by have q := hc4 k0 (by omega); rw [va_up_self] at q; exact q) (by omega))
  rw [va_up2] at hc4
  have hS4 : va_up S k0 (.inr (.inl (3, 7, rfL [(0, pp), (4, n + 3), (3, n + 2), (2, n + 1), (1, n)] []))) k0 = .inr (.inl (3, 7, rfL [(0, pp), (4, n + 3), (3, n + 2), (2, n + 1), (1, n)] [])) := va_up_self ..
  simp only [xg_xg]
  exact K (n + 4, ad4, va_up S k0 (.inr (.inl (3, 7, rfL [(0, pp), (4, n + 3), (3, n + 2), (2, n + 1), (1, n)] []))), h) 4 1569 ⟨ad4, rfl, fun k hk => ((hA4 k (by omega)).trans ((hA3 k (by omega)).trans ((hA2 k (by omega)).trans (hA1 k (by omega))))), hc4⟩ (by decide) (by decide) _ _ dX4_init_43)
set_option maxRecDepth 100000 in
theorem GX6_init {k0 : Nat} {pp : Nat} {pq : Nat} (hk : k0 < n) (hpp : pp < n) (hpq : pq < n) (hS : S k0 = .inr (.inl (5, 11, rfL [] [2, 3, 4, 5, 0, 1]))) (hcs : clS n S) (f0 : S (n) = .inr (.inr (4, 2, fun i => if i < 2 then some (n + 1 + i) else none))) (f1 : S (n + 1) = .inl (0, 300)) (f2 : S (n + 2) = .inl (0, 300)) (f3 : S (n + 3) = .inl (0, 2)) (f4 : S (n + 4) = .inl (0, 2)) (f5 : S (n + 5) = .inl (0, 2)) (g : ∀ i, i < 6 → h (n + i) = fun _ => 0) : GM l0 yX6_init (.code yX6_init cX6_init 3 none) (mkR 1 6 608 12) Y ad n S h [.ref (ad k0), .ref (ad pp), .ref (ad pq)] (gQv Y ad n S h (fun u => ∃ ad', u = (n + 6, ad', va_up S k0 (.inr (.inl (5, 11, rfL [(1, pq), (0, pp), (5, n + 5), (4, n + 4), (3, n + 3), (2, n)] []))), h) ∧ (∀ k, k < n → ad' k = ad k) ∧ clS (n + 6) (va_up S k0 (.inr (.inl (5, 11, rfL [(1, pq), (0, pp), (5, n + 5), (4, n + 4), (3, n + 3), (2, n)] [])))))) := met_gv (by decide) (Nat.le_of_ble_eq_true rfl) (fun X C E N K => by
  refine j_vl (lv' := [(0, .ref (ad k0)), (1, .ref (ad pp)), (2, .ref (ad pq))]) ?_ ⟨rfl, rfl, rfl, trivial⟩
  refine j_aload_n C dX6_init_0 rfl rfl ?_
  refine j_objInit C dX6_init_1 lo_RX6_3 oi_i oi_c (by decide) (by decide) ?_
  refine j_aload_n C dX6_init_4 rfl rfl ?_
  refine j_iconst (v := 2) C dX6_init_5 (by decide) ?_
  refine j_sipush (v := 300) C dX6_init_6 (by decide) ?_
  refine j_mna (N := 300) C E dX6_init_9 cl_RX6_9 ar_int (by decide) hcs f0 f1 f2 (g 0 (by decide)) (g 1 (by decide)) (g 2 (by decide)) (by decide) (by decide) (fun ad1 hA1 hc1 => ?_)
  rw [← hA1 k0 (by omega), ← hA1 pp (by omega), ← hA1 pq (by omega)]
  have C1 := C.g (a := 3) (b := 2 + 2 * 300) (by decide) (by decide)
  refine j_putFr (j := 2) (r := n) (ty := .array (.array .int)) C1 N dX6_init_13 (by omega) hS rfl inX6 tyX6_ok nmX6 (by decide) lfRX6_11 rfl rfl rfl (by decide +kernel) (fun _ => rfl) (fun _ => rfl) ?_
  rw [rfL_put]
  have hc1 := hc1.set (k := k0) (rfL_cl0 (j := 2) (r := n) (by have q := hc1 k0 (by omega); rw [hS] at q; exact q) (by omega))
  have hS1 : va_up S k0 (.inr (.inl (5, 11, rfL [(2, n)] [3, 4, 5, 0, 1]))) k0 = .inr (.inl (5, 11, rfL [(2, n)] [3, 4, 5, 0, 1])) := va_up_self ..
  refine j_aload_n C1 dX6_init_16 rfl rfl ?_
  refine j_iconst (v := 2) C1 dX6_init_17 (by decide) ?_
  refine j_nap (k0 := k0) (j := 3) (t := 0) (N := 2) (fty := .array .int) C1 N dX6_init_18 dX6_init_20 (by omega) hS1 (by rw [va_up_ne _ _ (by omega)]; exact f3) (g 3 (by decide)) hc1 rfl ar_int (fun _ => rfl) raI (by decide +kernel) (by decide) (by decide) (by decide) rfl inX6 tyX6_ok nmX6 (by decide) lfRX6_16 rfl rfl rfl (by decide +kernel) (fun _ => rfl) (fun _ => rfl) (fun ad2 hA2 hc2 => ?_)
  rw [va_up2] at hc2 ⊢
  rw [← hA2 k0 (by omega), ← hA2 pp (by omega), ← hA2 pq (by omega)]
  have C2 := C1.g (a := 1) (b := 2) (by decide) (by decide)
  have hS2 : va_up S k0 (.inr (.inl (5, 11, rfL [(3, n + 3), (2, n)] [4, 5, 0, 1]))) k0 = .inr (.inl (5, 11, rfL [(3, n + 3), (2, n)] [4, 5, 0, 1])) := va_up_self ..
  refine j_aload_n C2 dX6_init_23 rfl rfl ?_
  refine j_iconst (v := 2) C2 dX6_init_24 (by decide) ?_
  refine j_nap (k0 := k0) (j := 4) (t := 0) (N := 2) (fty := .array .int) C2 N dX6_init_25 dX6_init_27 (by omega) hS2 (by rw [va_up_ne _ _ (by omega)]; exact f4) (g 4 (by decide)) hc2 rfl ar_int (fun _ => rfl) raI (by decide +kernel) (by decide) (by decide) (by decide) rfl inX6 tyX6_ok nmX6 (by decide) lfRX6_20 rfl rfl rfl (by decide +kernel) (fun _ => rfl) (fun _ => rfl) (fun ad3 hA3 hc3 => ?_)
  rw [va_up2] at hc3 ⊢
  rw [← hA3 k0 (by omega), ← hA3 pp (by omega), ← hA3 pq (by omega)]
  have C3 := C2.g (a := 1) (b := 2) (by decide) (by decide)
  have hS3 : va_up S k0 (.inr (.inl (5, 11, rfL [(4, n + 4), (3, n + 3), (2, n)] [5, 0, 1]))) k0 = .inr (.inl (5, 11, rfL [(4, n + 4), (3, n + 3), (2, n)] [5, 0, 1])) := va_up_self ..
  refine j_aload_n C3 dX6_init_30 rfl rfl ?_
  refine j_iconst (v := 2) C3 dX6_init_31 (by decide) ?_
  refine j_nap (k0 := k0) (j := 5) (t := 0) (N := 2) (fty := .array .int) C3 N dX6_init_32 dX6_init_34 (by omega) hS3 (by rw [va_up_ne _ _ (by omega)]; exact f5) (g 5 (by decide)) hc3 rfl ar_int (fun _ => rfl) raI (by decide +kernel) (by decide) (by decide) (by decide) rfl inX6 tyX6_ok nmX6 (by decide) lfRX6_23 rfl rfl rfl (by decide +kernel) (fun _ => rfl) (fun _ => rfl) (fun ad4 hA4 hc4 => ?_)
  rw [va_up2] at hc4 ⊢
  rw [← hA4 k0 (by omega), ← hA4 pp (by omega), ← hA4 pq (by omega)]
  have C4 := C3.g (a := 1) (b := 2) (by decide) (by decide)
  have hS4 : va_up S k0 (.inr (.inl (5, 11, rfL [(5, n + 5), (4, n + 4), (3, n + 3), (2, n)] [0, 1]))) k0 = .inr (.inl (5, 11, rfL [(5, n + 5), (4, n + 4), (3, n + 3), (2, n)] [0, 1])) := va_up_self ..
  refine j_aload_n C4 dX6_init_37 rfl rfl ?_
  refine j_aload_n C4 dX6_init_38 rfl rfl ?_
  refine j_putFr (j := 0) (r := pp) (ty := .object "ReplayBox$Program") C4 N dX6_init_39 (by omega) hS4 rfl inX6 tyX6_ok nmX6 (by decide) lfRX6_26 rfl rfl rfl (by decide +kernel) (fun _ => rfl) (fun _ => rfl) ?_
  rw [rfL_put, va_up2]
  have hc4 := hc4.set (k := k0) (rfL_cl0 (j := 0) (r := pp) (by have q := hc4 k0 (by omega); rw [va_up_self] at q; exact q) (by omega))
  rw [va_up2] at hc4
  have hS4 : va_up S k0 (.inr (.inl (5, 11, rfL [(0, pp), (5, n + 5), (4, n + 4), (3, n + 3), (2, n)] [1]))) k0 = .inr (.inl (5, 11, rfL [(0, pp), (5, n + 5), (4, n + 4), (3, n + 3), (2, n)] [1])) := va_up_self ..
  refine j_aload_n C4 dX6_init_42 rfl rfl ?_
  refine j_aload_n C4 dX6_init_43 rfl rfl ?_
  refine j_putFr (j := 1) (r := pq) (ty := .object "ReplayBox$Machine") C4 N dX6_init_44 (by omega) hS4 rfl inX6 tyX6_ok nmX6 (by decide) lfRX6_30 rfl rfl rfl (by decide +kernel) (fun _ => rfl) (fun _ => rfl) ?_
  rw [rfL_put, va_up2]
  have hc4 := hc4.set (k := k0) (rfL_cl0 (j := 1) (r := pq) (by have q := hc4 k0 (by omega); rw [va_up_self] at q; exact q) (by omega))
  rw [va_up2] at hc4
  have hS4 : va_up S k0 (.inr (.inl (5, 11, rfL [(1, pq), (0, pp), (5, n + 5), (4, n + 4), (3, n + 3), (2, n)] []))) k0 = .inr (.inl (5, 11, rfL [(1, pq), (0, pp), (5, n + 5), (4, n + 4), (3, n + 3), (2, n)] [])) := va_up_self ..
  simp only [xg_xg]
  exact K (n + 6, ad4, va_up S k0 (.inr (.inl (5, 11, rfL [(1, pq), (0, pp), (5, n + 5), (4, n + 4), (3, n + 3), (2, n)] []))), h) 6 608 ⟨ad4, rfl, fun k hk => ((hA4 k (by omega)).trans ((hA3 k (by omega)).trans ((hA2 k (by omega)).trans (hA1 k (by omega))))), hc4⟩ (by decide) (by decide) _ _ dX6_init_47)
end INITC
