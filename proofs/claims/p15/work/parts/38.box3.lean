/-! THE BOX: THINGS on SHELVES, keep, and what looks at SHELVES -/
theorem KS_cut {n : Nat} {S : ph_S} {h h' : ph_H} (k : KS n S h) : KS n S (hcut 60 h' h) := ⟨k.1, k.2.1, fun j len a b c i => by rw [hcut_ge a]; exact k.2.2 j len a b c i⟩
theorem KS_low {n : Nat} {S : ph_S} {h h' : ph_H} (k : KS n S h) (q : BY n S h → BY n S h') : KS n S h' := ⟨k.1, k.2.1, q k.2.2⟩
section BOX3
variable {l0 : Launch} {Y : fj_Y} {ad : Nat → Nat} {n : Nat} {S : ph_S} {h : ph_H} {pr : Nat} {z : zT}
set_option maxRecDepth 100000 in
theorem GX3_shelved (W : WS pr n S) (ks : KS n S h) (a0 : Int32) (I : IC z h) : GM l0 yX3_shelved (.code yX3_shelved cX3_shelved 2 (some (.object "ReplayBox$Held"))) (mkR 4 1 2 75) Y ad n S h [.ref (ad 15), .int a0] (gQr Y ad n S h (PH pr ad n h)) := met_gr (by decide) (Nat.le_of_ble_eq_true rfl) ⟨_, rfl⟩ (fun X C E N K => by
  refine j_vl (lv' := [(0, .ref (ad 15)), (1, .int a0)]) ?_ ⟨rfl, rfl, trivial⟩
  have h60 := W.1
  refine j_aload_n C dX3_shelved_0 rfl rfl ?_
  refine j_iload_n C dX3_shelved_1 rfl rfl ?_
  have s := SX3_hasThing_s (z := z) a0 h I
  refine j_callV C (MX3_hasThing_s W a0 h s.1) dX3_shelved_2 (CKX3_hasThing (by decide)) ⟨rfl, rfl⟩ lk_RX3_95 in_X3_hasThing se_X3_hasThing (W.lt 15 (by decide)) (sh_15 W) rfl rfl (Nat.le_of_ble_eq_true rfl) ?_
  intro r S' h' hq
  obtain ⟨e1, e2, e3, -⟩ := hq
  rw [e1, e2, e3]
  refine j_if_ne (tgt := 10) C dX3_shelved_5 (by decide) (fun c0 => ?_) (fun _ => ?_)
  · have f0 : iv 0 11 a0 := s.2.2 c0
    refine j_aload_n C dX3_shelved_10 rfl rfl ?_
    refine gCRX3_27 C dX3_shelved_11 (W.lt 15 (by decide)) (sh_15 W) rfl ?_
    refine j_iload_n C dX3_shelved_14 rfl rfl ?_
    refine j_iald (k := 21) C dX3_shelved_15 (W.lt 21 (by decide)) (sh_21 W) (iv_in f0 rfl) rfl ?_
    rcases Classical.em (h 21 a0.toNatClampNeg = 1) with c1 | c1
    · refine j_lookup (tgt := 44) (off := 28) C dX3_shelved_16 (by decide) (by rw [c1]; decide) (by decide) ?_
      refine j_new (ci := 8) (rf := rfN) (T := TX9) C dX3_shelved_44 rfl inX9 tyX9_ok cl_RX3_98 is_X9 iz_X9 (by decide +kernel) ks.2.1 (by decide) (by decide) (fun ad1 hA1 => ?_)
      rw [← hA1 15 (by omega)]
      have C1 := C.g (a := 1) (b := 2) (by decide) (by decide)
      have W1 : WS pr (n + 1) (va_up S n (.inr (.inl (8, 2, rz rfN)))) := W.push
      have ks1 := KS_push (E := .inr (.inl (8, 2, rz rfN))) (h' := va_up h n (fun _ => 0)) h60 ks clE_z (fun j hj => va_up_ne _ _ (by omega)) (fun len e => by cases e)
      refine j_dup C1 dX3_shelved_47 rfl ?_
      refine j_iload_n C1 dX3_shelved_48 rfl rfl ?_
      refine j_aload_n C1 dX3_shelved_49 rfl rfl ?_
      refine gCRX3_30 C1 dX3_shelved_50 (W1.lt 15 (by decide)) (sh_15 W1) rfl ?_
      refine j_iload_n C1 dX3_shelved_53 rfl rfl ?_
      refine j_iald (k := 22) C1 dX3_shelved_54 (W1.lt 22 (by decide)) (sh_22 W1) (iv_in f0 rfl) rfl ?_
      refine j_gv C1 (gr_I (b := ad1 n) (av := [.int a0, .int _]) C1 E (GX9_init (p := n) _ _ (by omega) (va_up_self ..)) dX3_shelved_55 (CKX9_init (by decide)) C1.room lk_RX3_100 in_X9_init rfl rfl (Nat.le_of_ble_eq_true rfl)) ?_
      rintro u rfl
      refine fj_xg0 ?_
      refine K (some n) (n + 1, ad1, va_up S n (.inr (.inl (8, 2, rz rfN))), _) 1 2 ⟨⟨Nat.le_succ n, hA1, W1, KS_low ks1 (fun b k len x1 x2 x3 i => ?_), fun k hk => ?_⟩, fun p e => by cases e; exact ⟨h60, by show n < n + 1; omega, Or.inr (Or.inr (Or.inl (va_up_self ..)))⟩⟩ (by decide) (by decide) _ _ dX3_shelved_58
      · have ne : k ≠ n := fun e => by
          subst e
          have x3 : va_up S k (.inr (.inl (8, 2, rz rfN))) k = .inl (2, len) := x3
          rw [va_up_self] at x3
          cases x3
        show fits .byte (.int (hs (hs (va_up h n (fun _ => 0)) n 0 _) n 1 _ k i)) = true
        rw [hs_row ne, hs_row ne]
        exact b k len x1 x2 x3 i
      · show hs (hs (va_up h n (fun _ => 0)) n 0 _) n 1 _ k = h k
        rw [hs_row (by omega), hs_row (by omega), va_up_ne _ _ (by omega)]
    rcases Classical.em (h 21 a0.toNatClampNeg = 2) with c2 | c2
    · refine j_lookup (tgt := 59) (off := 43) C dX3_shelved_16 (by decide) (by rw [c2]; decide) (by decide) ?_
      refine j_vl (lv' := [(1, .int a0)]) ?_ ⟨rfl, trivial⟩
      refine j_new (ci := 7) (rf := rfN) (T := TX8) C dX3_shelved_59 rfl inX8 tyX8_ok cl_RX3_103 is_X8 iz_X8 (by decide +kernel) ks.2.1 (by decide) (by decide) (fun ad1 hA1 => ?_)
      have C1 := C.g (a := 1) (b := 1) (by decide) (by decide)
      have W1 : WS pr (n + 1) (va_up S n (.inr (.inl (7, 1, rz rfN)))) := W.push
      have ks1 := KS_push (E := .inr (.inl (7, 1, rz rfN))) (h' := va_up h n (fun _ => 0)) h60 ks clE_z (fun j hj => va_up_ne _ _ (by omega)) (fun len e => by cases e)
      refine j_dup C1 dX3_shelved_62 rfl ?_
      refine j_iload_n C1 dX3_shelved_63 rfl rfl ?_
      refine j_gv C1 (gr_I (b := ad1 n) (av := [.int a0]) C1 E (GX8_init (p := n) _ (by omega) (va_up_self ..)) dX3_shelved_64 (CKX8_init (by decide)) C1.room lk_RX3_105 in_X8_init rfl rfl (Nat.le_of_ble_eq_true rfl)) ?_
      rintro u rfl
      refine fj_xg0 ?_
      refine K (some n) (n + 1, ad1, va_up S n (.inr (.inl (7, 1, rz rfN))), _) 1 1 ⟨⟨Nat.le_succ n, hA1, W1, KS_low ks1 (fun b k len x1 x2 x3 i => ?_), fun k hk => ?_⟩, fun p e => by cases e; exact ⟨h60, by show n < n + 1; omega, Or.inr (Or.inr (Or.inr (Or.inl (va_up_self ..))))⟩⟩ (by decide) (by decide) _ _ dX3_shelved_67
      · have ne : k ≠ n := fun e => by
          subst e
          have x3 : va_up S k (.inr (.inl (7, 1, rz rfN))) k = .inl (2, len) := x3
          rw [va_up_self] at x3
          cases x3
        show fits .byte (.int (hs (va_up h n (fun _ => 0)) n 0 _ k i)) = true
        rw [hs_row ne]
        exact b k len x1 x2 x3 i
      · show hs (va_up h n (fun _ => 0)) n 0 _ k = h k
        rw [hs_row (by omega), va_up_ne _ _ (by omega)]
    · refine j_lookup (tgt := 68) (off := 52) C dX3_shelved_16 (by decide) ?_ (by decide) ?_
      · show Op.lookupswitch.offset [(1, 28), (2, 43)] 52 (h 21 a0.toNatClampNeg).toInt = 52
        rw [Op.lookupswitch.offset_cons, if_neg (fun e => c1 (Int32.toInt_inj.mp (e.symm.trans (by decide)))), Op.lookupswitch.offset_cons, if_neg (fun e => c2 (Int32.toInt_inj.mp (e.symm.trans (by decide))))]
        rfl
      refine j_vl (lv' := [(1, .int a0)]) ?_ ⟨rfl, trivial⟩
      refine j_new (ci := 6) (rf := rfN) (T := TX7) C dX3_shelved_68 rfl inX7 tyX7_ok cl_RX3_108 is_X7 iz_X7 (by decide +kernel) ks.2.1 (by decide) (by decide) (fun ad1 hA1 => ?_)
      have C1 := C.g (a := 1) (b := 1) (by decide) (by decide)
      have W1 : WS pr (n + 1) (va_up S n (.inr (.inl (6, 1, rz rfN)))) := W.push
      have ks1 := KS_push (E := .inr (.inl (6, 1, rz rfN))) (h' := va_up h n (fun _ => 0)) h60 ks clE_z (fun j hj => va_up_ne _ _ (by omega)) (fun len e => by cases e)
      refine j_dup C1 dX3_shelved_71 rfl ?_
      refine j_iload_n C1 dX3_shelved_72 rfl rfl ?_
      refine j_gv C1 (gr_I (b := ad1 n) (av := [.int a0]) C1 E (GX7_init (p := n) _ (by omega) (va_up_self ..)) dX3_shelved_73 (CKX7_init (by decide)) C1.room lk_RX3_110 in_X7_init rfl rfl (Nat.le_of_ble_eq_true rfl)) ?_
      rintro u rfl
      refine fj_xg0 ?_
      refine K (some n) (n + 1, ad1, va_up S n (.inr (.inl (6, 1, rz rfN))), _) 1 1 ⟨⟨Nat.le_succ n, hA1, W1, KS_low ks1 (fun b k len x1 x2 x3 i => ?_), fun k hk => ?_⟩, fun p e => by cases e; exact ⟨h60, by show n < n + 1; omega, Or.inr (Or.inr (Or.inr (Or.inr (va_up_self ..))))⟩⟩ (by decide) (by decide) _ _ dX3_shelved_76
      · have ne : k ≠ n := fun e => by
          subst e
          have x3 : va_up S k (.inr (.inl (6, 1, rz rfN))) k = .inl (2, len) := x3
          rw [va_up_self] at x3
          cases x3
        show fits .byte (.int (hs (va_up h n (fun _ => 0)) n 0 _ k i)) = true
        rw [hs_row ne]
        exact b k len x1 x2 x3 i
      · show hs (va_up h n (fun _ => 0)) n 0 _ k = h k
        rw [hs_row (by omega), va_up_ne _ _ (by omega)]
  · refine j_aconst C dX3_shelved_8 ?_
    exact fj_xg1 (K none (n, ad, S, h) 0 0 ⟨⟨Nat.le_refl _, fun _ _ => rfl, W, ks, fun _ _ => rfl⟩, fun p e => by cases e⟩ (Nat.zero_le _) (Nat.zero_le _) _ _ dX3_shelved_9))
/-- what keep leaves of the class's own numbers -/
def kpH (h h' : ph_H) : Prop := h' = h ∨ h' = FX11_seenBehind (h 35 11) h
set_option maxRecDepth 100000 in
theorem GX11_keep (W : WS pr n S) (ks : KS n S h) (I : IC z h) (a0 a1 a2 : Int32) : GM l0 yX11_keep (.code yX11_keep cX11_keep 4 (some .int)) (mkR 7 2 62 166) Y ad n S h [.ref (ad 0), .int a0, .int a1, .int a2] (gQi Y ad n S h (fun _ u => ∃ h', kpH h h' ∧ KP pr ad n h' u)) := met_gi (by decide) (Nat.le_of_ble_eq_true rfl) (fun _ _ _ => rfl) (fun X C E N K => by
  refine j_vl (lv' := [(0, .ref (ad 0)), (1, .int a0), (2, .int a1), (3, .int a2)]) ?_ ⟨rfl, rfl, rfl, rfl, trivial⟩
  have h60 := W.1
  have W60 : WS pr 60 S := ⟨Nat.le_refl _, W.2⟩
  have kp : ∃ h', kpH h h' ∧ KP pr ad n h' (n, ad, S, h) := ⟨h, Or.inl rfl, Nat.le_refl _, fun _ _ => rfl, W, ks, fun _ _ => rfl⟩
  have bad : ∀ lv, FJ X Y ad n S h 23 lv [] := fun lv => by
    refine j_iconst (v := (-1)) C dX11_keep_23 (by decide) ?_
    exact fj_xg1 (K (-1) (n, ad, S, h) 0 0 kp (Nat.zero_le _) (Nat.zero_le _) _ _ dX11_keep_24)
  have bad2 : ∀ lv, FJ X Y ad n S h 45 lv [] := fun lv => by
    refine j_iconst (v := (-1)) C dX11_keep_45 (by decide) ?_
    exact fj_xg1 (K (-1) (n, ad, S, h) 0 0 kp (Nat.zero_le _) (Nat.zero_le _) _ _ dX11_keep_46)
  refine j_aload_n C dX11_keep_0 rfl rfl ?_
  refine gCRX11_116 C dX11_keep_1 (W.lt 0 (by decide)) (sh_0 W) rfl rfl ?_
  refine j_if_eq (tgt := 23) C dX11_keep_4 (by decide) (fun _ => bad _) (fun _ => ?_)
  refine j_iload_n C dX11_keep_7 rfl rfl ?_
  refine j_callS C (MX11_isShelf W a0 h (SX11_isShelf a0).1) dX11_keep_8 (CKX11_isShelf (by decide)) ⟨rfl, rfl⟩ lk_RX11_290 st_X11_isShelf rfl (Nat.le_of_ble_eq_true rfl) ?_
  intro r S' h' hq
  obtain ⟨e1, e2, e3, -⟩ := hq
  rw [e1, e2, e3]
  refine j_if_eq (tgt := 23) C dX11_keep_11 (by decide) (fun _ => bad _) (fun c0 => ?_)
  refine j_iload_n C dX11_keep_14 rfl rfl ?_
  refine j_if_lt (tgt := 23) C dX11_keep_15 (by decide) (fun _ => bad _) (fun _ => ?_)
  refine j_iload_n C dX11_keep_18 rfl rfl ?_
  refine j_iconst (v := 3) C dX11_keep_19 (by decide) ?_
  refine j_icmp_le (tgt := 25) C dX11_keep_20 (by decide) (fun _ => ?_) (fun _ => bad _)
  obtain ⟨g, hg, -⟩ := id ks.1
  have hin := isS_in c0
  have at47 : FJ X Y ad n S h 47 [(0, .ref (ad 0)), (1, .int a0), (2, .int a1), (3, .int a2)] [] := by
    refine j_iload_n C dX11_keep_47 rfl rfl ?_
    refine j_if_ne (tgt := 61) C dX11_keep_48 (by decide) (fun _ => ?_) (fun _ => ?_)
    · refine j_iload_n C dX11_keep_61 rfl rfl ?_
      refine j_iconst (v := 1) C dX11_keep_62 (by decide) ?_
      refine j_icmp_ne (tgt := 90) C dX11_keep_63 (by decide) (fun _ => ?_) (fun _ => ?_)
      · refine j_iload_n C dX11_keep_90 rfl rfl ?_
        refine j_iconst (v := 2) C dX11_keep_91 (by decide) ?_
        refine j_icmp_ne (tgt := 108) C dX11_keep_92 (by decide) (fun _ => ?_) (fun _ => ?_)
        · refine j_aload_n C dX11_keep_108 rfl rfl ?_
          refine gCRX11_58 C dX11_keep_109 (W.lt 0 (by decide)) (sh_0 W) rfl ?_
          refine j_iload_n C dX11_keep_112 rfl rfl ?_
          refine j_aload_n C dX11_keep_113 rfl rfl ?_
          refine j_vl (lv' := []) ?_ trivial
          refine j_gr C (gr_V (av := []) C E (GX11_numbers W ks I) dX11_keep_114 (CKX11_numbersOfCells (by decide)) ⟨by decide, by decide⟩ lk_RX11_301 in_X11_numbersOfCells se_X11_numbersOfCells (W.lt 0 (by decide)) (sh_0 W) rfl rfl (Nat.le_of_ble_eq_true rfl)) ?_
          rintro k u ⟨⟨u1, u2, u3, u4, u5⟩, u6⟩
          have C1 := C.g (a := 2) (b := 62) (by decide) (by decide)
          rw [← u2 59 (by omega)]
          obtain ⟨g', hg', -⟩ := id u4.1
          refine j_aastH C1 E dX11_keep_117 u3.1 hg' hin u6 ?_
          refine j_iconst (v := 0) C1 dX11_keep_118 (by decide) ?_
          exact K 0 (u.1, u.2.1, va_up u.2.2.1 59 (.inr (.inr (3, 8, va_up g' a0.toNatClampNeg k))), u.2.2.2) 2 62 ⟨_, Or.inr rfl, u1, u2, u3.set (by omega), KS_set u4 hg' u6, u5⟩ (by decide) (by decide) _ _ dX11_keep_119
        · refine j_aload_n C dX11_keep_95 rfl rfl ?_
          refine gCRX11_58 C dX11_keep_96 (W.lt 0 (by decide)) (sh_0 W) rfl ?_
          refine j_iload_n C dX11_keep_99 rfl rfl ?_
          refine j_aload_n C dX11_keep_100 rfl rfl ?_
          refine j_vl (lv' := []) ?_ trivial
          refine j_gr C (gr_V (av := []) C E (GX11_threads W ks I) dX11_keep_101 (CKX11_threadsOfFirstSteps (by decide)) ⟨by decide, by decide⟩ lk_RX11_297 in_X11_threadsOfFirstSteps se_X11_threadsOfFirstSteps (W.lt 0 (by decide)) (sh_0 W) rfl rfl (Nat.le_of_ble_eq_true rfl)) ?_
          rintro k u ⟨⟨u1, u2, u3, u4, u5⟩, u6⟩
          have C1 := C.g (a := 2) (b := 62) (by decide) (by decide)
          rw [← u2 59 (by omega)]
          obtain ⟨g', hg', -⟩ := id u4.1
          refine j_aastH C1 E dX11_keep_104 u3.1 hg' hin u6 ?_
          refine j_goto (tgt := 118) C1 dX11_keep_105 (by decide) ?_
          refine j_iconst (v := 0) C1 dX11_keep_118 (by decide) ?_
          exact K 0 (u.1, u.2.1, va_up u.2.2.1 59 (.inr (.inr (3, 8, va_up g' a0.toNatClampNeg k))), u.2.2.2) 2 62 ⟨_, Or.inl rfl, u1, u2, u3.set (by omega), KS_set u4 hg' u6, u5⟩ (by decide) (by decide) _ _ dX11_keep_119
      · refine j_aload_n C dX11_keep_66 rfl rfl ?_
        refine gCRX11_58 C dX11_keep_67 (W.lt 0 (by decide)) (sh_0 W) rfl ?_
        refine j_iload_n C dX11_keep_70 rfl rfl ?_
        refine j_aload_n C dX11_keep_71 rfl rfl ?_
        refine j_aload_n C dX11_keep_72 rfl rfl ?_
        refine gCRX11_34 C dX11_keep_73 (W.lt 0 (by decide)) (sh_0 W) rfl ?_
        refine gCRX11_120 C dX11_keep_76 (W.lt 35 (by decide)) (sh_35 W) rfl rfl ?_
        have sb := SX11_seenBehind _ h I (ICv I 35 11)
        refine j_callVrm (m := 60) C h60 (MX11_seenBehind W60 (h 35 11) h sb.1) dX11_keep_79 (CKX11_seenBehind (by decide)) ⟨rfl, rfl⟩ lk_RX11_200 in_X11_seenBehind se_X11_seenBehind (W.lt 0 (by decide)) (sh_0 W) rfl rfl (Nat.le_of_ble_eq_true rfl) ?_
        refine j_iload_n C dX11_keep_82 rfl rfl ?_
        refine j_vl (lv' := []) ?_ trivial
        have I1 : IC z (hcut 60 (FX11_seenBehind (h 35 11) h) h) := by
          obtain ⟨i1, ⟨i2, i3, i4, i5⟩, i6⟩ := sb.2
          refine ⟨fun k i => ?_, ⟨fun i => ?_, fun i => ?_, ?_, fun i => ?_⟩, fun k i e => ?_⟩
          · by_cases q : k < 60
            · rw [hcut_lt q]
              exact i1 k i
            · rw [hcut_ge (by omega)]
              exact I.1 k i
          · rw [hcut_lt (by decide), hcut_lt (by decide)]
            exact i2 i
          · rw [hcut_lt (by decide), hcut_lt (by decide)]
            exact i3 i
          · unfold MSm
            rw [hcut_lt (by decide)]
            exact i4
          · rw [hcut_lt (by decide), hcut_lt (by decide)]
            exact i5 i
          · by_cases q : k < 60
            · rw [hcut_lt q]
              exact i6 k i e
            · rw [hcut_ge (by omega)]
              exact I.2.2 k i e
        refine j_gr C (gr_V (av := [.int a2]) C E (GX3_shelved W (KS_cut ks) a2 I1) dX11_keep_83 (CKX3_shelved (by decide)) ⟨by decide, by decide⟩ lk_RX11_293 in_X3_shelved se_X3_shelved (W.lt 15 (by decide)) (sh_15 W) rfl rfl (Nat.le_of_ble_eq_true rfl)) ?_
        rintro k u ⟨⟨u1, u2, u3, u4, u5⟩, u6⟩
        have C1 := C.g (a := 1) (b := 2) (by decide) (by decide)
        rw [← u2 59 (by omega)]
        obtain ⟨g', hg', -⟩ := id u4.1
        refine j_aastH C1 E dX11_keep_86 u3.1 hg' hin u6 ?_
        refine j_goto (tgt := 118) C1 dX11_keep_87 (by decide) ?_
        refine j_iconst (v := 0) C1 dX11_keep_118 (by decide) ?_
        exact K 0 (u.1, u.2.1, va_up u.2.2.1 59 (.inr (.inr (3, 8, va_up g' a0.toNatClampNeg k))), u.2.2.2) 1 2 ⟨_, Or.inr rfl, u1, u2, u3.set (by omega), KS_set u4 hg' u6, fun k hk => (u5 k hk).trans (hcut_lt hk)⟩ (by decide) (by decide) _ _ dX11_keep_119
    · refine j_aload_n C dX11_keep_51 rfl rfl ?_
      refine gCRX11_58 C dX11_keep_52 (W.lt 0 (by decide)) (sh_0 W) rfl ?_
      refine j_iload_n C dX11_keep_55 rfl rfl ?_
      refine j_aconst C dX11_keep_56 ?_
      refine j_aastH (op := none) C E dX11_keep_57 h60 hg hin (fun p e => by cases e) ?_
      refine j_goto (tgt := 118) C dX11_keep_58 (by decide) ?_
      refine j_iconst (v := 0) C dX11_keep_118 (by decide) ?_
      exact fj_xg1 (K 0 (n, ad, va_up S 59 (.inr (.inr (3, 8, va_up g a0.toNatClampNeg none))), h) 0 0 ⟨h, Or.inl rfl, Nat.le_refl _, fun _ _ => rfl, W.set (by omega), KS_set ks hg (fun p e => by cases e), fun _ _ => rfl⟩ (Nat.zero_le _) (Nat.zero_le _) _ _ dX11_keep_119)
  refine j_iload_n C dX11_keep_25 rfl rfl ?_
  refine j_iconst (v := 1) C dX11_keep_26 (by decide) ?_
  refine j_icmp_ne (tgt := 47) C dX11_keep_27 (by decide) (fun _ => at47) (fun _ => ?_)
  refine j_iload_n C dX11_keep_30 rfl rfl ?_
  refine j_if_lt (tgt := 45) C dX11_keep_31 (by decide) (fun _ => bad2 _) (fun _ => ?_)
  refine j_iload_n C dX11_keep_34 rfl rfl ?_
  refine j_aload_n C dX11_keep_35 rfl rfl ?_
  refine gCRX11_34 C dX11_keep_36 (W.lt 0 (by decide)) (sh_0 W) rfl ?_
  refine gCRX11_139 C dX11_keep_39 (W.lt 35 (by decide)) (sh_35 W) rfl rfl ?_
  exact j_icmp_lt (tgt := 47) C dX11_keep_42 (by decide) (fun _ => at47) (fun _ => bad2 _))
end BOX3
