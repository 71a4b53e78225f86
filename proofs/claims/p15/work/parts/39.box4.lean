/-! THE BOX: what looks at SHELVES; value and place -/
abbrev eIA : String := "java/lang/IllegalArgumentException"
abbrev eIS : String := "java/lang/IllegalStateException"
theorem th_el7 : ThrowAt cX11_element RX11 7 eIA := ⟨195, 314, 199, "no such SHELF", dX11_element_7, dX11_element_10, cl_RX11_195, iz_IllegalArgumentException, thr_IA, by decide +kernel, by decide +kernel, Or.inr ⟨dX11_element_11, dX11_element_14, dX11_element_17⟩⟩
theorem th_el41 : ThrowAt cX11_element RX11 41 eIS := ⟨182, 319, 186, "no such ROW or place on the SHELF", dX11_element_41, dX11_element_44, cl_RX11_182, iz_IllegalStateException, thr_IS, by decide +kernel, by decide +kernel, Or.inr ⟨dX11_element_45, dX11_element_48, dX11_element_51⟩⟩
theorem th_va7 : ThrowAt cX11_value RX11 7 eIS := ⟨182, 184, 186, "there was no run", dX11_value_7, dX11_value_10, cl_RX11_182, iz_IllegalStateException, thr_IS, by decide +kernel, by decide +kernel, Or.inl ⟨dX11_value_11, dX11_value_13, dX11_value_16⟩⟩
theorem th_va50 : ThrowAt cX11_value RX11 50 eIA := ⟨195, 197, 199, "no such THREAD, CELL, LOCAL or what", dX11_value_50, dX11_value_53, cl_RX11_195, iz_IllegalArgumentException, thr_IA, by decide +kernel, by decide +kernel, Or.inl ⟨dX11_value_54, dX11_value_56, dX11_value_59⟩⟩
theorem th_pl7 : ThrowAt cX11_place RX11 7 eIS := ⟨182, 184, 186, "there was no run", dX11_place_7, dX11_place_10, cl_RX11_182, iz_IllegalStateException, thr_IS, by decide +kernel, by decide +kernel, Or.inl ⟨dX11_place_11, dX11_place_13, dX11_place_16⟩⟩
theorem th_pl35 : ThrowAt cX11_place RX11 35 eIA := ⟨195, 226, 199, "no such place of a ROW", dX11_place_35, dX11_place_38, cl_RX11_195, iz_IllegalArgumentException, thr_IA, by decide +kernel, by decide +kernel, Or.inl ⟨dX11_place_39, dX11_place_41, dX11_place_44⟩⟩
section BOX4
variable {l0 : Launch} {Y : fj_Y} {ad : Nat → Nat} {n : Nat} {S : ph_S} {h : ph_H} {pr : Nat} {z : zT}
theorem HOg (ks : KS n S h) {g : Nat → Option Nat} (hg : S 59 = .inr (.inr (3, 8, g))) {i p : Nat} (e : g i = some p) : HO n S p := by
  obtain ⟨⟨g', e', o⟩, -⟩ := ks
  rw [hg] at e'
  cases e'
  exact o i p e
set_option maxRecDepth 100000 in
theorem GX11_element (htr : l0.stackTraces = false) (W : WS pr n S) (ks : KS n S h) (a0 a1 : Int32) : XM l0 yX11_element (.code yX11_element cX11_element 4 (some .int)) (mkR 6 1 6 90) Y ad n S h [.ref (ad 0), .int a0, .int a1] (gQi Y ad n S h (PZ n ad S h)) (fun Ex u => (Ex = eIA ∨ Ex = eIS) ∧ u = (n, ad, S, h)) := met_x htr (by decide) (Nat.le_of_ble_eq_true rfl) (fun _ _ _ => rfl) (fun X C E K T => by
  refine j_vl (lv' := [(0, .ref (ad 0)), (1, .int a0), (2, .int a1)]) ?_ ⟨rfl, rfl, rfl, trivial⟩
  have h60 := W.1
  have t41 : ∀ lv, FJ X Y ad n S h 41 lv [] := fun lv => fj_xg1 (T eIS (n, ad, S, h) 0 0 ⟨Or.inr rfl, rfl⟩ (by decide) (by decide) (by decide) 41 lv [] (by decide) th_el41)
  refine j_iload_n C dX11_element_0 rfl rfl ?_
  refine j_callS C (MX11_isShelf W a0 h (SX11_isShelf a0).1) dX11_element_1 (CKX11_isShelf (by decide)) ⟨rfl, rfl⟩ lk_RX11_290 st_X11_isShelf rfl (Nat.le_of_ble_eq_true rfl) ?_
  intro r S' h' hq
  obtain ⟨e1, e2, e3, -⟩ := hq
  rw [e1, e2, e3]
  refine j_if_ne (tgt := 18) C dX11_element_4 (by decide) (fun c0 => ?_) (fun _ => fj_xg1 (T eIA (n, ad, S, h) 0 0 ⟨Or.inl rfl, rfl⟩ (by decide) (by decide) (by decide) 7 _ [] (by decide) th_el7))
  obtain ⟨g, hg, -⟩ := id ks.1
  refine j_aload_n C dX11_element_18 rfl rfl ?_
  refine gCRX11_58 C dX11_element_19 (W.lt 0 (by decide)) (sh_0 W) rfl ?_
  refine j_iload_n C dX11_element_22 rfl rfl ?_
  refine j_aaldq C dX11_element_23 (by omega) hg (isS_in c0) ?_
  cases ho : g a0.toNatClampNeg with
  | none =>
    refine j_astore_nN C dX11_element_24 rfl (by decide) rfl ?_
    refine j_aload_nN C dX11_element_25 rfl rfl ?_
    exact j_ifnullN (tgt := 41) C dX11_element_26 (by decide) (t41 _)
  | some p =>
    have o := HOg ks hg ho
    refine j_astore_n C dX11_element_24 rfl (by decide) rfl ?_
    refine j_aload_n C dX11_element_25 rfl rfl ?_
    refine j_ifnull C dX11_element_26 ?_
    refine j_iload_n C dX11_element_29 rfl rfl ?_
    refine j_if_lt (tgt := 41) C dX11_element_30 (by decide) (fun _ => t41 _) (fun _ => ?_)
    refine j_iload_n C dX11_element_33 rfl rfl ?_
    refine j_aload_n C dX11_element_34 rfl rfl ?_
    refine hv_length C E o dX11_element_35 (by decide) (Nat.le_of_ble_eq_true rfl) (fun r => ?_)
    refine j_icmp_lt (tgt := 52) C dX11_element_38 (by decide) (fun _ => ?_) (fun _ => t41 _)
    refine j_aload_n C dX11_element_52 rfl rfl ?_
    refine j_iload_n C dX11_element_53 rfl rfl ?_
    refine hv_elementAt C E o dX11_element_54 (by decide) (Nat.le_of_ble_eq_true rfl) (fun r => ?_)
    exact fj_xg1 (K r (n, ad, S, h) 0 0 rfl (Nat.zero_le _) (Nat.zero_le _) _ _ dX11_element_57))
set_option maxRecDepth 100000 in
theorem GX11_weight (W : WS pr n S) (ks : KS n S h) (a0 : Int32) : GM l0 yX11_weight (.code yX11_weight cX11_weight 3 (some .int)) (mkR 3 0 0 60) Y ad n S h [.ref (ad 0), .int a0] (gQi Y ad n S h (PZ n ad S h)) := met_gi (by decide) (Nat.le_of_ble_eq_true rfl) (fun _ _ _ => rfl) (fun X C E N K => by
  refine j_vl (lv' := [(0, .ref (ad 0)), (1, .int a0)]) ?_ ⟨rfl, rfl, trivial⟩
  have h60 := W.1
  have fin : ∀ r pc lv, decode cX11_weight pc = .ok (.ireturn, 1) → FJ X Y ad n S h pc lv [.int r] := fun r pc lv d => fj_xg1 (K r (n, ad, S, h) 0 0 rfl (Nat.zero_le _) (Nat.zero_le _) _ _ d)
  refine j_iload_n C dX11_weight_0 rfl rfl ?_
  refine j_callS C (MX11_isShelf W a0 h (SX11_isShelf a0).1) dX11_weight_1 (CKX11_isShelf (by decide)) ⟨rfl, rfl⟩ lk_RX11_290 st_X11_isShelf rfl (Nat.le_of_ble_eq_true rfl) ?_
  intro r S' h' hq
  obtain ⟨e1, e2, e3, -⟩ := hq
  rw [e1, e2, e3]
  refine j_if_ne (tgt := 9) C dX11_weight_4 (by decide) (fun c0 => ?_) (fun _ => j_iconst (v := (-1)) C dX11_weight_7 (by decide) (fin _ _ _ dX11_weight_8))
  obtain ⟨g, hg, -⟩ := id ks.1
  refine j_aload_n C dX11_weight_9 rfl rfl ?_
  refine gCRX11_58 C dX11_weight_10 (W.lt 0 (by decide)) (sh_0 W) rfl ?_
  refine j_iload_n C dX11_weight_13 rfl rfl ?_
  refine j_aaldq C dX11_weight_14 (by omega) hg (isS_in c0) ?_
  cases ho : g a0.toNatClampNeg with
  | none =>
    refine j_astore_nN C dX11_weight_15 rfl (by decide) rfl ?_
    refine j_aload_nN C dX11_weight_16 rfl rfl ?_
    refine j_ifnonnullN C dX11_weight_17 ?_
    exact j_bipush (v := (-11)) C dX11_weight_20 (by decide) (fin _ _ _ dX11_weight_22)
  | some p =>
    have o := HOg ks hg ho
    refine j_astore_n C dX11_weight_15 rfl (by decide) rfl ?_
    refine j_aload_n C dX11_weight_16 rfl rfl ?_
    refine j_ifnonnull (tgt := 23) C dX11_weight_17 (by decide) ?_
    refine j_aload_n C dX11_weight_23 rfl rfl ?_
    refine hv_isThing C E o dX11_weight_24 (by decide) (Nat.le_of_ble_eq_true rfl) (fun r => ?_)
    refine j_if_eq (tgt := 37) C dX11_weight_27 (by decide) (fun _ => j_bipush (v := (-12)) C dX11_weight_37 (by decide) (fin _ _ _ dX11_weight_39)) (fun _ => ?_)
    refine j_aload_n C dX11_weight_30 rfl rfl ?_
    refine hv_heft C E o dX11_weight_31 (by decide) (Nat.le_of_ble_eq_true rfl) (fun r => ?_)
    exact j_goto (tgt := 39) C dX11_weight_34 (by decide) (fin _ _ _ dX11_weight_39))
set_option maxRecDepth 100000 in
theorem GX11_toss (htr : l0.stackTraces = false) (W : WS pr n S) (ks : KS n S h) (a0 : Int32) : GM l0 yX11_toss (.code yX11_toss cX11_toss 3 (some .int)) (mkR 8 1 6 123) Y ad n S h [.ref (ad 0), .int a0] (gQi Y ad n S h (PZ n ad S h)) := met_gi (by decide) (Nat.le_of_ble_eq_true rfl) (fun _ _ _ => rfl) (fun X C E N K => by
  refine j_vl (lv' := [(0, .ref (ad 0)), (1, .int a0)]) ?_ ⟨rfl, rfl, trivial⟩
  have h60 := W.1
  have fin : ∀ r pc lv, decode cX11_toss pc = .ok (.ireturn, 1) → FJ X Y ad n S h pc lv [.int r] := fun r pc lv d => fj_xg1 (K r (n, ad, S, h) 0 0 rfl (Nat.zero_le _) (Nat.zero_le _) _ _ d)
  refine j_iload_n C dX11_toss_0 rfl rfl ?_
  refine j_callS C (MX11_isShelf W a0 h (SX11_isShelf a0).1) dX11_toss_1 (CKX11_isShelf (by decide)) ⟨rfl, rfl⟩ lk_RX11_290 st_X11_isShelf rfl (Nat.le_of_ble_eq_true rfl) ?_
  intro r S' h' hq
  obtain ⟨e1, e2, e3, -⟩ := hq
  rw [e1, e2, e3]
  refine j_if_ne (tgt := 9) C dX11_toss_4 (by decide) (fun c0 => ?_) (fun _ => j_iconst (v := (-1)) C dX11_toss_7 (by decide) (fin _ _ _ dX11_toss_8))
  obtain ⟨g, hg, -⟩ := id ks.1
  refine j_aload_n C dX11_toss_9 rfl rfl ?_
  refine gCRX11_58 C dX11_toss_10 (W.lt 0 (by decide)) (sh_0 W) rfl ?_
  refine j_iload_n C dX11_toss_13 rfl rfl ?_
  refine j_aaldq C dX11_toss_14 (by omega) hg (isS_in c0) ?_
  cases ho : g a0.toNatClampNeg with
  | none =>
    refine j_astore_nN C dX11_toss_15 rfl (by decide) rfl ?_
    refine j_aload_nN C dX11_toss_16 rfl rfl ?_
    refine j_ifnonnullN C dX11_toss_17 ?_
    exact j_bipush (v := (-11)) C dX11_toss_20 (by decide) (fin _ _ _ dX11_toss_22)
  | some p =>
    have o := HOg ks hg ho
    refine j_astore_n C dX11_toss_15 rfl (by decide) rfl ?_
    refine j_aload_n C dX11_toss_16 rfl rfl ?_
    refine j_ifnonnull (tgt := 23) C dX11_toss_17 (by decide) ?_
    refine j_aload_n C dX11_toss_23 rfl rfl ?_
    refine hv_isThing C E o dX11_toss_24 (by decide) (Nat.le_of_ble_eq_true rfl) (fun r => ?_)
    refine j_if_eq (tgt := 37) C dX11_toss_27 (by decide) (fun _ => j_bipush (v := (-12)) C dX11_toss_37 (by decide) (fin _ _ _ dX11_toss_39)) (fun _ => ?_)
    refine j_aload_n C dX11_toss_30 rfl rfl ?_
    refine j_gi C (gr_SW (av := [.ref (ad p)]) C E (GX11_caughtFrom htr o) dX11_toss_31 cw_X11_caughtFrom iz_X11 ⟨by decide, by decide⟩ (show _ = some 1 by decide +kernel) ⟨by decide, by decide⟩ (by decide) lk_RX11_343 st_X11_caughtFrom rfl (Nat.le_of_ble_eq_true rfl)) ?_
    rintro r u rfl
    have C1 := C.g (a := 1) (b := 6) (by decide) (by decide)
    refine j_goto (tgt := 39) C1 dX11_toss_34 (by decide) ?_
    exact K r (n, ad, S, h) 1 6 rfl (by decide) (by decide) _ _ dX11_toss_39)
set_option maxRecDepth 100000 in
theorem GX11_copy (W : WS pr n S) (ks : KS n S h) (a0 a1 a2 a3 a4 : Int32) : GM l0 yX11_copy (.code yX11_copy cX11_copy 8 (some .int)) (mkR 3 0 0 60) Y ad n S h [.ref (ad 0), .int a0, .int a1, .int a2, .int a3, .int a4] (gQi Y ad n S h (fun _ u => KP pr ad n h u)) := met_gi (by decide) (Nat.le_of_ble_eq_true rfl) (fun _ _ _ => rfl) (fun X C E N K => by
  refine j_vl (lv' := [(0, .ref (ad 0)), (1, .int a0), (2, .int a1), (3, .int a2), (4, .int a3), (5, .int a4)]) ?_ ⟨rfl, rfl, rfl, rfl, rfl, rfl, trivial⟩
  have h60 := W.1
  have fin : ∀ h', HR n S h h' → ∀ r pc lv, decode cX11_copy pc = .ok (.ireturn, 1) → FJ X Y ad n S h' pc lv [.int r] := fun h' q r pc lv d => fj_xg1 (K r (n, ad, S, h') 0 0 ⟨Nat.le_refl _, fun _ _ => rfl, W, KS_low ks q.2, q.1⟩ (Nat.zero_le _) (Nat.zero_le _) _ _ d)
  have bad : ∀ lv, FJ X Y ad n S h 14 lv [] := fun lv => j_iconst (v := (-1)) C dX11_copy_14 (by decide) (fin h HR.rf _ _ _ dX11_copy_15)
  refine j_iload_n C dX11_copy_0 rfl rfl ?_
  refine j_callS C (MX11_isShelf W a0 h (SX11_isShelf a0).1) dX11_copy_1 (CKX11_isShelf (by decide)) ⟨rfl, rfl⟩ lk_RX11_290 st_X11_isShelf rfl (Nat.le_of_ble_eq_true rfl) ?_
  intro r S' h' hq
  obtain ⟨e1, e2, e3, -⟩ := hq
  rw [e1, e2, e3]
  refine j_if_eq (tgt := 14) C dX11_copy_4 (by decide) (fun _ => bad _) (fun c0 => ?_)
  refine j_iload_n C dX11_copy_7 rfl rfl ?_
  refine j_callS C (MX11_isShelf W a2 h (SX11_isShelf a2).1) dX11_copy_8 (CKX11_isShelf (by decide)) ⟨rfl, rfl⟩ lk_RX11_290 st_X11_isShelf rfl (Nat.le_of_ble_eq_true rfl) ?_
  intro r S' h' hq
  obtain ⟨e1, e2, e3, -⟩ := hq
  rw [e1, e2, e3]
  refine j_if_ne (tgt := 16) C dX11_copy_11 (by decide) (fun c1 => ?_) (fun _ => bad _)
  obtain ⟨g, hg, -⟩ := id ks.1
  have none11 : ∀ lv, FJ X Y ad n S h 42 lv [] := fun lv => j_bipush (v := (-11)) C dX11_copy_42 (by decide) (fin h HR.rf _ _ _ dX11_copy_44)
  refine j_aload_n C dX11_copy_16 rfl rfl ?_
  refine gCRX11_58 C dX11_copy_17 (W.lt 0 (by decide)) (sh_0 W) rfl ?_
  refine j_iload_n C dX11_copy_20 rfl rfl ?_
  refine j_aaldq C dX11_copy_21 (by omega) hg (isS_in c0) ?_
  cases ho : g a0.toNatClampNeg with
  | none =>
    refine j_astoreN C dX11_copy_22 (by decide) rfl ?_
    refine j_aload_n C dX11_copy_24 rfl rfl ?_
    refine gCRX11_58 C dX11_copy_25 (W.lt 0 (by decide)) (sh_0 W) rfl ?_
    refine j_iload_n C dX11_copy_28 rfl rfl ?_
    refine j_aaldq C dX11_copy_29 (by omega) hg (isS_in c1) ?_
    cases hp : g a2.toNatClampNeg with
    | none =>
      refine j_astoreN C dX11_copy_30 (by decide) rfl ?_
      refine j_aloadN C dX11_copy_32 rfl ?_
      exact j_ifnullN (tgt := 42) C dX11_copy_34 (by decide) (none11 _)
    | some q =>
      refine j_astore C dX11_copy_30 (by decide) rfl ?_
      refine j_aloadN C dX11_copy_32 rfl ?_
      exact j_ifnullN (tgt := 42) C dX11_copy_34 (by decide) (none11 _)
  | some p =>
    have o := HOg ks hg ho
    refine j_astore C dX11_copy_22 (by decide) rfl ?_
    refine j_aload_n C dX11_copy_24 rfl rfl ?_
    refine gCRX11_58 C dX11_copy_25 (W.lt 0 (by decide)) (sh_0 W) rfl ?_
    refine j_iload_n C dX11_copy_28 rfl rfl ?_
    refine j_aaldq C dX11_copy_29 (by omega) hg (isS_in c1) ?_
    cases hp : g a2.toNatClampNeg with
    | none =>
      refine j_astoreN C dX11_copy_30 (by decide) rfl ?_
      refine j_aload C dX11_copy_32 rfl ?_
      refine j_ifnull C dX11_copy_34 ?_
      refine j_aloadN C dX11_copy_37 rfl ?_
      exact j_ifnonnullN C dX11_copy_39 (none11 _)
    | some q =>
      have w := HOg ks hg hp
      have bad13 : ∀ lv, FJ X Y ad n S h 87 lv [] := fun lv => j_bipush (v := (-13)) C dX11_copy_87 (by decide) (fin h HR.rf _ _ _ dX11_copy_89)
      refine j_astore C dX11_copy_30 (by decide) rfl ?_
      refine j_aload C dX11_copy_32 rfl ?_
      refine j_ifnull C dX11_copy_34 ?_
      refine j_aload C dX11_copy_37 rfl ?_
      refine j_ifnonnull (tgt := 45) C dX11_copy_39 (by decide) ?_
      refine j_aload C dX11_copy_45 rfl ?_
      refine j_aload C dX11_copy_47 rfl ?_
      refine hv_takesFrom C E w o dX11_copy_49 (by decide) (Nat.le_of_ble_eq_true rfl) (fun r => ?_)
      refine j_if_ne (tgt := 58) C dX11_copy_52 (by decide) (fun _ => ?_) (fun _ => j_bipush (v := (-12)) C dX11_copy_55 (by decide) (fin h HR.rf _ _ _ dX11_copy_57))
      refine j_iload_n C dX11_copy_58 rfl rfl ?_
      refine j_iload C dX11_copy_59 rfl ?_
      refine j_aload C dX11_copy_61 rfl ?_
      refine hv_length C E o dX11_copy_63 (by decide) (Nat.le_of_ble_eq_true rfl) (fun r1 => ?_)
      refine j_callS C (MX11_fits W a1 a4 r1 h (SX11_fits _ _ _).1) dX11_copy_66 (CKX11_fits (by decide)) ⟨rfl, rfl⟩ lk_RX11_328 st_X11_fits rfl (Nat.le_of_ble_eq_true rfl) ?_
      intro r2 S' h' hq
      obtain ⟨e1, e2, e3, -⟩ := hq
      rw [e1, e2, e3]
      refine j_if_eq (tgt := 87) C dX11_copy_69 (by decide) (fun _ => bad13 _) (fun _ => ?_)
      refine j_iload C dX11_copy_72 rfl ?_
      refine j_iload C dX11_copy_74 rfl ?_
      refine j_aload C dX11_copy_76 rfl ?_
      refine hv_length C E w dX11_copy_78 (by decide) (Nat.le_of_ble_eq_true rfl) (fun r3 => ?_)
      refine j_callS C (MX11_fits W a3 a4 r3 h (SX11_fits _ _ _).1) dX11_copy_81 (CKX11_fits (by decide)) ⟨rfl, rfl⟩ lk_RX11_328 st_X11_fits rfl (Nat.le_of_ble_eq_true rfl) ?_
      intro r4 S' h' hq
      obtain ⟨e1, e2, e3, -⟩ := hq
      rw [e1, e2, e3]
      refine j_if_ne (tgt := 90) C dX11_copy_84 (by decide) (fun _ => ?_) (fun _ => bad13 _)
      refine j_aload C dX11_copy_90 rfl ?_
      refine j_iload C dX11_copy_92 rfl ?_
      refine j_aload C dX11_copy_94 rfl ?_
      refine j_iload_n C dX11_copy_96 rfl rfl ?_
      refine j_iload C dX11_copy_97 rfl ?_
      refine hv_fill W C E w o ks.2.2 dX11_copy_99 (by decide) (Nat.le_of_ble_eq_true rfl) (fun h' hr => ?_)
      refine j_iload C dX11_copy_102 rfl ?_
      exact fin h' hr _ _ _ dX11_copy_104)
/-! value and place: 0 they return, 1 IllegalArgumentException, 2 IllegalStateException -/
def vSlot (a0 a1 : Int32) : Int32 := if a0 = (-1) then FX11_cellSlot a1 else FX11_localSlot a0 a1
def vCode (a0 a1 a2 : Int32) (h : ph_H) : Nat := if h 0 8 = 0 then 2 else if vSlot a0 a1 < 0 then 1 else if a2 < 0 then 1 else if a2 ≤ 1 then 0 else 1
def vR (a0 a1 a2 : Int32) (h : ph_H) : Int32 := if a2 = 0 then FX11_seenBehind (h 0 10) h 16 (vSlot a0 a1).toNatClampNeg else FX11_seenBehind (h 0 10) h 17 (vSlot a0 a1).toNatClampNeg
def xCode (E : String) (c : Nat) : Prop := (E = eIA ∧ c = 1) ∨ (E = eIS ∧ c = 2)
set_option maxRecDepth 100000 in
theorem GX11_value (htr : l0.stackTraces = false) (W : WS pr n S) (I : IC z h) (a0 a1 a2 : Int32) : XM l0 yX11_value (.code yX11_value cX11_value 6 (some .int)) (mkR 6 1 6 143) Y ad n S h [.ref (ad 0), .int a0, .int a1, .int a2] (gQi Y ad n S h (fun r u => vCode a0 a1 a2 h = 0 ∧ r = vR a0 a1 a2 h ∧ u = (n, ad, S, FX11_seenBehind (h 0 10) h))) (fun Ex u => xCode Ex (vCode a0 a1 a2 h) ∧ u = (n, ad, S, h)) := met_x htr (by decide) (Nat.le_of_ble_eq_true rfl) (fun _ _ _ => rfl) (fun X C E K T => by
  refine j_vl (lv' := [(0, .ref (ad 0)), (1, .int a0), (2, .int a1), (3, .int a2)]) ?_ ⟨rfl, rfl, rfl, rfl, trivial⟩
  have t50 : vCode a0 a1 a2 h = 1 → ∀ lv, FJ X Y ad n S h 50 lv [] := fun e lv => fj_xg1 (T eIA (n, ad, S, h) 0 0 ⟨Or.inl ⟨rfl, e⟩, rfl⟩ (by decide) (by decide) (by decide) 50 lv [] (by decide) th_va50)
  refine j_aload_n C dX11_value_0 rfl rfl ?_
  refine gCRX11_116 C dX11_value_1 (W.lt 0 (by decide)) (sh_0 W) rfl rfl ?_
  refine j_if_ne (tgt := 17) C dX11_value_4 (by decide) (fun c0 => ?_) (fun c0 => fj_xg1 (T eIS (n, ad, S, h) 0 0 ⟨Or.inr ⟨rfl, by unfold vCode; rw [if_pos c0]⟩, rfl⟩ (by decide) (by decide) (by decide) 7 _ [] (by decide) th_va7))
  have at36 : ∀ s : Int32, s = vSlot a0 a1 → iv (-1) 27 s → FJ X Y ad n S h 34 [(0, .ref (ad 0)), (1, .int a0), (2, .int a1), (3, .int a2)] [.int s] := fun s es fs => by
    refine j_istore C dX11_value_34 (by decide) rfl ?_
    refine j_iload C dX11_value_36 rfl ?_
    refine j_if_lt (tgt := 50) C dX11_value_38 (by decide) (fun c => t50 (by unfold vCode; rw [if_neg c0, if_pos (by rw [← es]; exact c)]) _) (fun c1 => ?_)
    refine j_iload_n C dX11_value_41 rfl rfl ?_
    refine j_if_lt (tgt := 50) C dX11_value_42 (by decide) (fun c => t50 (by unfold vCode; rw [if_neg c0, if_neg (by rw [← es]; exact c1), if_pos c]) _) (fun c2 => ?_)
    refine j_iload_n C dX11_value_45 rfl rfl ?_
    refine j_iconst (v := 1) C dX11_value_46 (by decide) ?_
    refine j_icmp_le (tgt := 60) C dX11_value_47 (by decide) (fun c3 => ?_) (fun c => t50 (by unfold vCode; rw [if_neg c0, if_neg (by rw [← es]; exact c1), if_neg c2, if_neg c]) _)
    have ok : vCode a0 a1 a2 h = 0 := by unfold vCode; rw [if_neg c0, if_neg (by rw [← es]; exact c1), if_neg c2, if_pos c3]
    have fs2 : iv 0 27 s := by
      have z : (0 : Int32).toInt = 0 := by decide
      rw [Int32.lt_iff_toInt_lt] at c1
      unfold iv at *
      omega
    refine j_aload_n C dX11_value_60 rfl rfl ?_
    refine j_aload_n C dX11_value_61 rfl rfl ?_
    refine gCRX11_126 C dX11_value_62 (W.lt 0 (by decide)) (sh_0 W) rfl rfl ?_
    refine j_callVr C (MX11_seenBehind W (h 0 10) h (SX11_seenBehind _ h I (ICv I 0 10)).1) dX11_value_65 (CKX11_seenBehind (by decide)) ⟨rfl, rfl⟩ lk_RX11_200 in_X11_seenBehind se_X11_seenBehind (W.lt 0 (by decide)) (sh_0 W) rfl rfl (Nat.le_of_ble_eq_true rfl) ?_
    intro S' h' hq
    obtain ⟨e1, e2⟩ := hq
    rw [e1, e2]
    refine j_astore C dX11_value_68 (by decide) rfl ?_
    refine j_iload_n C dX11_value_70 rfl rfl ?_
    refine j_if_ne (tgt := 85) C dX11_value_71 (by decide) (fun c4 => ?_) (fun c4 => ?_)
    · refine j_aload C dX11_value_85 rfl ?_
      refine gCRX11_207 C dX11_value_87 (W.lt 15 (by decide)) (sh_15 W) rfl ?_
      refine j_iload C dX11_value_90 rfl ?_
      refine j_iald (k := 17) C dX11_value_92 (W.lt 17 (by decide)) (sh_17 W) (iv_in fs2 rfl) rfl ?_
      exact fj_xg1 (K _ (n, ad, S, FX11_seenBehind (h 0 10) h) 0 0 ⟨ok, by unfold vR; rw [if_neg c4, es], rfl⟩ (Nat.zero_le _) (Nat.zero_le _) _ _ dX11_value_93)
    · refine j_aload C dX11_value_74 rfl ?_
      refine gCRX11_204 C dX11_value_76 (W.lt 15 (by decide)) (sh_15 W) rfl ?_
      refine j_iload C dX11_value_79 rfl ?_
      refine j_iald (k := 16) C dX11_value_81 (W.lt 16 (by decide)) (sh_16 W) (iv_in fs2 rfl) rfl ?_
      refine j_goto (tgt := 93) C dX11_value_82 (by decide) ?_
      exact fj_xg1 (K _ (n, ad, S, FX11_seenBehind (h 0 10) h) 0 0 ⟨ok, by unfold vR; rw [if_pos c4, es], rfl⟩ (Nat.zero_le _) (Nat.zero_le _) _ _ dX11_value_93)
  refine j_iload_n C dX11_value_17 rfl rfl ?_
  refine j_iconst (v := (-1)) C dX11_value_18 (by decide) ?_
  refine j_icmp_ne (tgt := 29) C dX11_value_19 (by decide) (fun c => ?_) (fun c => ?_)
  · refine j_iload_n C dX11_value_29 rfl rfl ?_
    refine j_iload_n C dX11_value_30 rfl rfl ?_
    have s := SX11_localSlot a0 a1
    refine j_callS C (MX11_localSlot W a0 a1 h s.1) dX11_value_31 (CKX11_localSlot (by decide)) ⟨rfl, rfl⟩ lk_RX11_192 st_X11_localSlot rfl (Nat.le_of_ble_eq_true rfl) ?_
    intro r S' h' hq
    obtain ⟨e1, e2, e3⟩ := hq
    rw [e1, e2, e3]
    exact at36 _ (by unfold vSlot; rw [if_neg c]) s.2
  · refine j_iload_n C dX11_value_22 rfl rfl ?_
    have s := SX11_cellSlot a1
    refine j_callS C (MX11_cellSlot W a1 h s.1) dX11_value_23 (CKX11_cellSlot (by decide)) ⟨rfl, rfl⟩ lk_RX11_189 st_X11_cellSlot rfl (Nat.le_of_ble_eq_true rfl) ?_
    intro r S' h' hq
    obtain ⟨e1, e2, e3⟩ := hq
    rw [e1, e2, e3]
    refine j_goto (tgt := 34) C dX11_value_26 (by decide) ?_
    exact at36 _ (by unfold vSlot; rw [if_pos c]) (iv_w s.2 rfl))
def pH (h : ph_H) : ph_H := if h 0 8 = 0 then h else FX11_seenBehind (h 0 10) h
def pCode (a0 a1 : Int32) (h : ph_H) : Nat := if h 0 8 = 0 then 2 else if FX3_hasRowPlace_s a0 a1 (FX11_seenBehind (h 0 10) h) = 0 then 1 else 0
def pR (a0 a1 : Int32) (h : ph_H) : Int32 := FX11_seenBehind (h 0 10) h 24 (a0 * 16 + a1).toNatClampNeg
set_option maxRecDepth 100000 in
theorem GX11_place (htr : l0.stackTraces = false) (W : WS pr n S) (I : IC z h) (a0 a1 : Int32) : XM l0 yX11_place (.code yX11_place cX11_place 4 (some .int)) (mkR 6 1 6 143) Y ad n S h [.ref (ad 0), .int a0, .int a1] (gQi Y ad n S h (fun r u => pCode a0 a1 h = 0 ∧ r = pR a0 a1 h ∧ u = (n, ad, S, pH h))) (fun Ex u => xCode Ex (pCode a0 a1 h) ∧ u = (n, ad, S, pH h)) := met_x htr (by decide) (Nat.le_of_ble_eq_true rfl) (fun _ _ _ => rfl) (fun X C E K T => by
  refine j_vl (lv' := [(0, .ref (ad 0)), (1, .int a0), (2, .int a1)]) ?_ ⟨rfl, rfl, rfl, trivial⟩
  refine j_aload_n C dX11_place_0 rfl rfl ?_
  refine gCRX11_116 C dX11_place_1 (W.lt 0 (by decide)) (sh_0 W) rfl rfl ?_
  refine j_if_ne (tgt := 17) C dX11_place_4 (by decide) (fun c0 => ?_) (fun c0 => fj_xg1 (T eIS (n, ad, S, h) 0 0 ⟨Or.inr ⟨rfl, by unfold pCode; rw [if_pos c0]⟩, by unfold pH; rw [if_pos c0]⟩ (by decide) (by decide) (by decide) 7 _ [] (by decide) th_pl7))
  have eh : pH h = FX11_seenBehind (h 0 10) h := by unfold pH; rw [if_neg c0]
  have sb := SX11_seenBehind _ h I (ICv I 0 10)
  refine j_aload_n C dX11_place_17 rfl rfl ?_
  refine j_aload_n C dX11_place_18 rfl rfl ?_
  refine gCRX11_126 C dX11_place_19 (W.lt 0 (by decide)) (sh_0 W) rfl rfl ?_
  refine j_callVr C (MX11_seenBehind W (h 0 10) h sb.1) dX11_place_22 (CKX11_seenBehind (by decide)) ⟨rfl, rfl⟩ lk_RX11_200 in_X11_seenBehind se_X11_seenBehind (W.lt 0 (by decide)) (sh_0 W) rfl rfl (Nat.le_of_ble_eq_true rfl) ?_
  intro S' h' hq
  obtain ⟨e1, e2⟩ := hq
  rw [e1, e2]
  refine j_astore_n C dX11_place_25 rfl (by decide) rfl ?_
  refine j_aload_n C dX11_place_26 rfl rfl ?_
  refine j_iload_n C dX11_place_27 rfl rfl ?_
  refine j_iload_n C dX11_place_28 rfl rfl ?_
  have s := SX3_hasRowPlace_s (z := z) a0 a1 _ sb.2
  refine j_callV C (MX3_hasRowPlace_s W a0 a1 _ s.1) dX11_place_29 (CKX3_hasRowPlace (by decide)) ⟨rfl, rfl⟩ lk_RX11_222 in_X3_hasRowPlace se_X3_hasRowPlace (W.lt 15 (by decide)) (sh_15 W) rfl rfl (Nat.le_of_ble_eq_true rfl) ?_
  intro r S' h' hq
  obtain ⟨e1, e2, e3, -⟩ := hq
  rw [e1, e2, e3]
  refine j_if_ne (tgt := 45) C dX11_place_32 (by decide) (fun c1 => ?_) (fun c1 => fj_xg1 (T eIA (n, ad, S, FX11_seenBehind (h 0 10) h) 0 0 ⟨Or.inl ⟨rfl, by unfold pCode; rw [if_neg c0, if_pos c1]⟩, by rw [eh]⟩ (by decide) (by decide) (by decide) 35 _ [] (by decide) th_pl35))
  have f := s.2.2 c1
  refine j_aload_n C dX11_place_45 rfl rfl ?_
  refine gCRX11_228 C dX11_place_46 (W.lt 15 (by decide)) (sh_15 W) rfl ?_
  refine j_iload_n C dX11_place_49 rfl rfl ?_
  refine j_bipush (v := 16) C dX11_place_50 (by decide) ?_
  refine j_imul C dX11_place_52 ?_
  refine j_iload_n C dX11_place_53 rfl rfl ?_
  refine j_iadd C dX11_place_54 ?_
  have fm : iv 0 176 (a0 * 16) := iv_mulr (c := 16) rfl f.1 rfl
  refine j_iald (k := 24) C dX11_place_55 (W.lt 24 (by decide)) (sh_24 W) (iv_in (iv_add (lo := 0) (hi := 191) fm f.2 rfl) rfl) rfl ?_
  exact fj_xg1 (K _ (n, ad, S, FX11_seenBehind (h 0 10) h) 0 0 ⟨by unfold pCode; rw [if_neg c0, if_neg c1], rfl, by rw [eh]⟩ (Nat.zero_le _) (Nat.zero_le _) _ _ dX11_place_56))
end BOX4
