/-! THE BOX: rows out of a run, THINGS, keep -/
theorem HO_up {n p q : Nat} {S : ph_S} {E : ph_E} (w : HO n S q) (hq : q ≠ p) (hp : ∀ t len, ¬ S p = .inl (t, len)) : HO n (va_up S p E) q := by
  obtain ⟨h1, h2, h3⟩ := w
  refine ⟨h1, h2, ?_⟩
  rw [va_up_ne _ _ hq]
  have ne : ∀ {r t len}, S r = .inl (t, len) → va_up S p E r = S r := fun {r t len} z => va_up_ne _ _ (fun e => hp t len (by rw [← e]; exact z))
  rcases h3 with ⟨r, len, a, b, c, d, e⟩ | ⟨r, len, a, b, c, d, e⟩ | a | a | a
  · exact Or.inl ⟨r, len, a, b, c, (ne d).trans d, e⟩
  · exact Or.inr (Or.inl ⟨r, len, a, b, c, (ne d).trans d, e⟩)
  · exact Or.inr (Or.inr (Or.inl a))
  · exact Or.inr (Or.inr (Or.inr (Or.inl a)))
  · exact Or.inr (Or.inr (Or.inr (Or.inr a)))
theorem iv_min {a b c d lo hi : Int} {x y : Int32} (fx : iv a b x) (fy : iv c d y) (q : (decide (lo ≤ a) && decide (lo ≤ c) && (decide (b ≤ hi) || decide (d ≤ hi))) = true) : iv lo hi (if y < x then y else x) := by
  simp only [Bool.and_eq_true, Bool.or_eq_true, decide_eq_true_eq] at q
  split
  · rename_i h
    rw [Int32.lt_iff_toInt_lt] at h
    unfold iv at *
    omega
  · rename_i h
    rw [Int32.lt_iff_toInt_lt] at h
    unfold iv at *
    omega
abbrev PH (pr : Nat) (ad : Nat → Nat) (n : Nat) (hb : ph_H) : Option Nat → gU → Prop := fun k u => KP pr ad n hb u ∧ ∀ p, k = some p → HO u.1 u.2.2.1 p
theorem hs_row {h : ph_H} {k i : Nat} {v : Int32} {j : Nat} (e : j ≠ k) : hs h k i v j = h j := by
  funext i'
  exact hs_o (fun z => e z.1)
section BOX2
variable {l0 : Launch} {Y : fj_Y} {ad : Nat → Nat} {n : Nat} {S : ph_S} {h : ph_H} {pr : Nat} {z : zT}
set_option maxRecDepth 100000 in
theorem GX11_threads (W : WS pr n S) (ks : KS n S h) (I : IC z h) : GM l0 yX11_threadsOfFirstSteps (.code yX11_threadsOfFirstSteps cX11_threadsOfFirstSteps 4 (some (.object "ReplayBox$Held"))) (mkR 3 2 62 54) Y ad n S h [.ref (ad 0)] (gQr Y ad n S h (PH pr ad n h)) := met_gr (by decide) (Nat.le_of_ble_eq_true rfl) ⟨_, rfl⟩ (fun X C E N K => by
  refine j_vl (lv' := [(0, .ref (ad 0))]) ?_ ⟨rfl, trivial⟩
  have h60 := W.1
  refine j_aload_n C dX11_threadsOfFirstSteps_0 rfl rfl ?_
  refine gCRX11_34 C dX11_threadsOfFirstSteps_1 (W.lt 0 (by decide)) (sh_0 W) rfl ?_
  refine gCRX11_120 C dX11_threadsOfFirstSteps_4 (W.lt 35 (by decide)) (sh_35 W) rfl rfl ?_
  refine j_bipush (v := 60) C dX11_threadsOfFirstSteps_7 (by decide) ?_
  refine j_mmin C dX11_threadsOfFirstSteps_9 lk_RX11_361 mn_s mx_i mn_c (by decide) (by decide) ?_
  have f1 : iv 0 60 (if (60 : Int32) < h 35 11 then 60 else h 35 11) := iv_min (ICv I 35 11) (iv_lit (lo := 60) (hi := 60) (x := 60) rfl) rfl
  generalize (if (60 : Int32) < h 35 11 then 60 else h 35 11) = m at f1 ⊢
  refine j_istore_n C dX11_threadsOfFirstSteps_12 rfl (by decide) rfl ?_
  refine j_iload_n C dX11_threadsOfFirstSteps_13 rfl rfl ?_
  refine j_iconst (v := 0) C dX11_threadsOfFirstSteps_14 (by decide) ?_
  refine j_mmax C dX11_threadsOfFirstSteps_15 lk_RX11_366 mx_s mx_i mx_c (by decide) (by decide) ?_
  have f2 : iv 0 60 (if m < 0 then 0 else m) := iv_max f1 (iv_lit (lo := 0) (hi := 0) (x := 0) rfl) rfl
  generalize (if m < 0 then 0 else m) = v at f2 ⊢
  have hz : ¬ v < 0 := by
    have z : (0 : Int32).toInt = 0 := by decide
    rw [Int32.lt_iff_toInt_lt]
    unfold iv at f2
    omega
  obtain ⟨T, hN, hv⟩ : ∃ T : Nat, T ≤ 60 ∧ v.toNatClampNeg = T := ⟨v.toNatClampNeg, by
    have t : v.toNatClampNeg = v.toInt.toNat := rfl
    unfold iv at f2
    omega, rfl⟩
  refine j_vl (lv' := [(0, .ref (ad 0))]) ?_ ⟨rfl, trivial⟩
  refine j_newa (t := 2) (N := T) C dX11_threadsOfFirstSteps_18 rfl ar_byte (fun _ => rfl) raB (by decide +kernel) hz hv (by show _ * 1 ≤ _; omega) ks.2.1 (by decide) (by show 0 + _ ≤ 62; omega) (fun ad1 hA1 => ?_)
  rw [← hA1 0 (by omega)]
  have C1 := C.g (a := 1) (b := T) (by decide) (by show 0 + _ ≤ 62; omega)
  have W1 : WS pr (n + 1) (va_up S n (.inl (2, T))) := W.push
  have sn : va_up S n (.inl (2, T)) n = .inl (2, T) := va_up_self ..
  refine j_astore_n C1 dX11_threadsOfFirstSteps_20 rfl (by decide) rfl ?_
  refine j_iconst (v := 0) C1 dX11_threadsOfFirstSteps_21 (by decide) ?_
  refine j_istore_n C1 dX11_threadsOfFirstSteps_22 rfl (by decide) rfl ?_
  have loop : ∀ (d i : Nat) (h' : ph_H), i + d = T → (∀ k, k ≠ n → h' k = h k) → (∀ j, fits .byte (.int (h' n j)) = true) → FJ (xg X 1 T) Y ad1 (n + 1) (va_up S n (.inl (2, T))) h' 23 [(0, .ref (ad1 0)), (2, .ref (ad1 n)), (3, .int (nI i))] [] := by
    intro d
    induction d with
    | zero =>
      intro i h' e q1 q2
      have ei : i = T := by omega
      subst ei
      refine j_iload_n C1 dX11_threadsOfFirstSteps_23 rfl rfl ?_
      refine j_aload_n C1 dX11_threadsOfFirstSteps_24 rfl rfl ?_
      refine j_alen (v := nI i) (ty := .byte) C1 dX11_threadsOfFirstSteps_25 (by omega) sn rfl rfl ?_
      refine j_icmp_ge (tgt := 50) C1 dX11_threadsOfFirstSteps_26 (by decide) (fun _ => ?_) (fun c => absurd (nI_le (Nat.le_refl i) (by omega)) c)
      have ks1 : KS (n + 1) (va_up S n (.inl (2, i))) h' := KS_push h60 ks clE_i (fun j hj => q1 j (by omega)) (fun len _ j => q2 j)
      refine j_vl (lv' := [(2, .ref (ad1 n))]) ?_ ⟨rfl, trivial⟩
      refine j_new (ci := 0) (rf := rfH 0) (T := TX0) C1 dX11_threadsOfFirstSteps_50 rfl inX0 tyX0_ok cl_RX11_304 is_X0 iz_X0 (by decide +kernel) ks1.2.1 (by decide) (by show 0 + _ + 2 ≤ 62; omega) (fun ad2 hA2 => ?_)
      rw [← hA2 n (by omega)]
      have C2 := C1.g (a := 1) (b := 2) (by decide) (by show 0 + _ + 2 ≤ 62; omega)
      have ks2 := KS_push (E := .inr (.inl (0, 2, rz (rfH 0)))) (h' := va_up h' (n + 1) (fun _ => 0)) (by omega) ks1 clE_z (fun j hj => va_up_ne _ _ (by omega)) (fun len e => by cases e)
      refine j_dup C2 dX11_threadsOfFirstSteps_53 rfl ?_
      refine j_aload_n C2 dX11_threadsOfFirstSteps_54 rfl rfl ?_
      refine j_gv C2 (gr_I (av := [.ref (ad2 n)]) C2 E (GX0_init (r := 0) (by omega) (va_up_self ..)) dX11_threadsOfFirstSteps_55 (CKX0_init (by decide)) C2.room lk_RX11_306 in_X0_init rfl rfl (Nat.le_of_ble_eq_true rfl)) ?_
      rintro u rfl
      refine fj_xg0 ?_
      have ho : HO (n + 1 + 1) (va_up (va_up (va_up S n (.inl (2, i))) (n + 1) (.inr (.inl (0, 2, rz (rfH 0))))) (n + 1) (.inr (.inl (0, 2, rfH n)))) (n + 1) := ⟨by omega, by omega, Or.inl ⟨n, i, va_up_self .., h60, by omega, by rw [va_up_ne _ _ (by omega), va_up_ne _ _ (by omega), va_up_self], hN⟩⟩
      have ks3 := KS_upd (h' := hs (va_up h' (n + 1) (fun _ => 0)) (n + 1) 0 0) (p := n + 1) ks2 ⟨by omega, by omega⟩ (clE_H (ci := 0) (q := n) (by omega)) (fun q w => by
        by_cases e : q = n + 1
        · subst e
          exact ho
        · exact HO_up w e (fun t len z => by rw [va_up_self] at z; cases z)) (fun j i _ e => hs_o (fun z => e z.1)) (fun len e => by cases e)
      rw [xg_xg]
      refine K (some (n + 1)) (n + 1 + 1, ad2, _, _) (1 + 1) (i + 2) ⟨⟨by show n ≤ n + 1 + 1; omega, fun k hk => (hA2 k (by omega)).trans (hA1 k hk), W1.push.set (by omega), ks3, fun k hk => ?_⟩, fun p e => by cases e; exact ho⟩ (by decide) (by show i + 2 ≤ 62; omega) _ _ dX11_threadsOfFirstSteps_58
      show hs (va_up h' (n + 1) (fun _ => 0)) (n + 1) 0 0 k = h k
      rw [hs_row (by omega), va_up_ne _ _ (by omega)]
      exact q1 k (by omega)
    | succ d ih =>
      intro i h' e q1 q2
      refine j_iload_n C1 dX11_threadsOfFirstSteps_23 rfl rfl ?_
      refine j_aload_n C1 dX11_threadsOfFirstSteps_24 rfl rfl ?_
      refine j_alen (v := nI T) (ty := .byte) C1 dX11_threadsOfFirstSteps_25 (by omega) sn rfl rfl ?_
      refine j_icmp_ge (tgt := 50) C1 dX11_threadsOfFirstSteps_26 (by decide) (fun c => absurd c (nI_ge (by omega) (by omega))) (fun c => ?_)
      refine j_aload_n C1 dX11_threadsOfFirstSteps_29 rfl rfl ?_
      refine j_iload_n C1 dX11_threadsOfFirstSteps_30 rfl rfl ?_
      refine j_aload_n C1 dX11_threadsOfFirstSteps_31 rfl rfl ?_
      refine gCRX11_34 C1 dX11_threadsOfFirstSteps_32 (W1.lt 0 (by decide)) (sh_0 W1) rfl ?_
      refine gCRX11_154 C1 dX11_threadsOfFirstSteps_35 (W1.lt 35 (by decide)) (sh_35 W1) rfl ?_
      refine j_iload_n C1 dX11_threadsOfFirstSteps_38 rfl rfl ?_
      refine j_iconst (v := 1) C1 dX11_threadsOfFirstSteps_39 (by decide) ?_
      refine j_iadd C1 dX11_threadsOfFirstSteps_40 ?_
      refine j_iald (k := 36) C1 dX11_threadsOfFirstSteps_41 (W1.lt 36 (by decide)) (sh_36 W1) (by rw [← nI_succ]; exact nI_in (by omega) (by omega)) rfl ?_
      refine j_i2b C1 dX11_threadsOfFirstSteps_42 ?_
      refine j_bast (k := n) C1 dX11_threadsOfFirstSteps_43 (by omega) sn (nI_in (by omega) (by omega)) ?_
      refine j_iinc (v := nI (i + 1)) C1 dX11_threadsOfFirstSteps_44 rfl (by rw [nI_succ]; rfl) (by decide) rfl ?_
      refine j_goto (tgt := 23) C1 dX11_threadsOfFirstSteps_47 (by decide) ?_
      refine j_vl (ih (i + 1) _ (by omega) (fun k hk => (hs_row hk).trans (q1 k hk)) (fun j => ?_)) ⟨rfl, rfl, rfl, trivial⟩
      by_cases ej : j = (nI i).toNatClampNeg
      · subst ej
        rw [hz_e]
        exact nar_byte _
      · rw [hs_o (fun z => ej z.2)]
        exact q2 j
  exact j_vl (loop T 0 _ (by omega) (fun k hk => va_up_ne _ _ hk) (fun j => by rw [va_up_self]; rfl)) ⟨rfl, rfl, rfl, trivial⟩)
set_option maxRecDepth 100000 in
theorem GX11_numbers (W : WS pr n S) (ks : KS n S h) (I : IC z h) : GM l0 yX11_numbersOfCells (.code yX11_numbersOfCells cX11_numbersOfCells 4 (some (.object "ReplayBox$Held"))) (mkR 6 2 62 143) Y ad n S h [.ref (ad 0)] (gQr Y ad n S h (PH pr ad n (FX11_seenBehind (h 35 11) h))) := met_gr (by decide) (Nat.le_of_ble_eq_true rfl) ⟨_, rfl⟩ (fun X C E N K => by
  refine j_vl (lv' := [(0, .ref (ad 0))]) ?_ ⟨rfl, trivial⟩
  have h60 := W.1
  have W60 : WS pr 60 S := ⟨Nat.le_refl _, W.2⟩
  refine j_aload_n C dX11_numbersOfCells_0 rfl rfl ?_
  refine j_aload_n C dX11_numbersOfCells_1 rfl rfl ?_
  refine gCRX11_34 C dX11_numbersOfCells_2 (W.lt 0 (by decide)) (sh_0 W) rfl ?_
  refine gCRX11_120 C dX11_numbersOfCells_5 (W.lt 35 (by decide)) (sh_35 W) rfl rfl ?_
  refine j_callVrm (m := 60) C h60 (MX11_seenBehind W60 (h 35 11) h (SX11_seenBehind _ h I (ICv I 35 11)).1) dX11_numbersOfCells_8 (CKX11_seenBehind (by decide)) ⟨rfl, rfl⟩ lk_RX11_200 in_X11_seenBehind se_X11_seenBehind (W.lt 0 (by decide)) (sh_0 W) rfl rfl (Nat.le_of_ble_eq_true rfl) ?_
  obtain ⟨h1, eh⟩ : ∃ h1, h1 = hcut 60 (FX11_seenBehind (h 35 11) h) h := ⟨_, rfl⟩
  rw [← eh]
  have lo : ∀ k, k < 60 → h1 k = FX11_seenBehind (h 35 11) h k := fun k hk => by rw [eh]; exact hcut_lt hk
  have ks0 : KS n S h1 := ⟨ks.1, ks.2.1, fun k len a b c i => by rw [eh, hcut_ge a]; exact ks.2.2 k len a b c i⟩
  refine j_astore_n C dX11_numbersOfCells_11 rfl (by decide) rfl ?_
  refine j_bipush (v := 12) C dX11_numbersOfCells_12 (by decide) ?_
  refine j_vl (lv' := [(1, .ref (ad 15))]) ?_ ⟨rfl, trivial⟩
  refine j_newa (t := 0) (N := 12) C dX11_numbersOfCells_14 rfl ar_int (fun _ => rfl) raI (by decide +kernel) (by decide) (by decide) (by decide) ks0.2.1 (by decide) (by decide) (fun ad1 hA1 => ?_)
  rw [← hA1 15 (by omega)]
  have C1 := C.g (a := 1) (b := 12) (by decide) (by decide)
  have W1 : WS pr (n + 1) (va_up S n (.inl (0, 12))) := W.push
  have sn : va_up S n (.inl (0, 12)) n = .inl (0, 12) := va_up_self ..
  refine j_astore_n C1 dX11_numbersOfCells_16 rfl (by decide) rfl ?_
  refine j_iconst (v := 0) C1 dX11_numbersOfCells_17 (by decide) ?_
  refine j_istore_n C1 dX11_numbersOfCells_18 rfl (by decide) rfl ?_
  have loop : ∀ (d i : Nat) (h' : ph_H), i + d = 12 → (∀ k, k ≠ n → h' k = h1 k) → FJ (xg X 1 12) Y ad1 (n + 1) (va_up S n (.inl (0, 12))) h' 19 [(1, .ref (ad1 15)), (2, .ref (ad1 n)), (3, .int (nI i))] [] := by
    intro d
    induction d with
    | zero =>
      intro i h' e q1
      have ei : i = 12 := by omega
      subst ei
      refine j_iload_n C1 dX11_numbersOfCells_19 rfl rfl ?_
      refine j_bipush (v := 12) C1 dX11_numbersOfCells_20 (by decide) ?_
      refine j_icmp_ge (tgt := 53) C1 dX11_numbersOfCells_22 (by decide) (fun _ => ?_) (fun c => absurd (by decide) c)
      have ks1 : KS (n + 1) (va_up S n (.inl (0, 12))) h' := KS_push h60 ks0 clE_i (fun j hj => q1 j (by omega)) (fun len e => by cases e)
      refine j_vl (lv' := [(2, .ref (ad1 n))]) ?_ ⟨rfl, trivial⟩
      refine j_new (ci := 1) (rf := rfH 0) (T := TX2) C1 dX11_numbersOfCells_53 rfl inX2 tyX2_ok cl_RX11_309 is_X2 iz_X2 (by decide +kernel) ks1.2.1 (by decide) (by decide) (fun ad2 hA2 => ?_)
      rw [← hA2 n (by omega)]
      have C2 := C1.g (a := 1) (b := 2) (by decide) (by decide)
      have ks2 := KS_push (E := .inr (.inl (1, 2, rz (rfH 0)))) (h' := va_up h' (n + 1) (fun _ => 0)) (by omega) ks1 clE_z (fun j hj => va_up_ne _ _ (by omega)) (fun len e => by cases e)
      refine j_dup C2 dX11_numbersOfCells_56 rfl ?_
      refine j_aload_n C2 dX11_numbersOfCells_57 rfl rfl ?_
      refine j_gv C2 (gr_I (av := [.ref (ad2 n)]) C2 E (GX2_init (r := 0) (by omega) (va_up_self ..)) dX11_numbersOfCells_58 (CKX2_init (by decide)) C2.room lk_RX11_311 in_X2_init rfl rfl (Nat.le_of_ble_eq_true rfl)) ?_
      rintro u rfl
      refine fj_xg0 ?_
      have ho : HO (n + 1 + 1) (va_up (va_up (va_up S n (.inl (0, 12))) (n + 1) (.inr (.inl (1, 2, rz (rfH 0))))) (n + 1) (.inr (.inl (1, 2, rfH n)))) (n + 1) := ⟨by omega, by omega, Or.inr (Or.inl ⟨n, 12, va_up_self .., h60, by omega, by rw [va_up_ne _ _ (by omega), va_up_ne _ _ (by omega), va_up_self], by omega⟩)⟩
      have ks3 := KS_upd (h' := hs (va_up h' (n + 1) (fun _ => 0)) (n + 1) 0 0) (p := n + 1) ks2 ⟨by omega, by omega⟩ (clE_H (ci := 1) (q := n) (by omega)) (fun q w => by
        by_cases e : q = n + 1
        · subst e
          exact ho
        · exact HO_up w e (fun t len z => by rw [va_up_self] at z; cases z)) (fun j i _ e => hs_o (fun z => e z.1)) (fun len e => by cases e)
      rw [xg_xg]
      refine K (some (n + 1)) (n + 1 + 1, ad2, _, _) (1 + 1) (12 + 2) ⟨⟨by show n ≤ n + 1 + 1; omega, fun k hk => (hA2 k (by omega)).trans (hA1 k hk), W1.push.set (by omega), ks3, fun k hk => ?_⟩, fun p e => by cases e; exact ho⟩ (by decide) (by decide) _ _ dX11_numbersOfCells_61
      show hs (va_up h' (n + 1) (fun _ => 0)) (n + 1) 0 0 k = _
      rw [hs_row (by omega), va_up_ne _ _ (by omega)]
      exact (q1 k (by omega)).trans (lo k hk)
    | succ d ih =>
      intro i h' e q1
      have ini : ∀ m, 12 ≤ m → m < 2 ^ 31 → vp_in (nI i) m := fun m hm hm2 => nI_in (by omega) hm2
      refine j_iload_n C1 dX11_numbersOfCells_19 rfl rfl ?_
      refine j_bipush (v := nI 12) C1 dX11_numbersOfCells_20 (by decide) ?_
      refine j_icmp_ge (tgt := 53) C1 dX11_numbersOfCells_22 (by decide) (fun c => absurd c (nI_ge (by omega) (by omega))) (fun c => ?_)
      refine j_aload_n C1 dX11_numbersOfCells_25 rfl rfl ?_
      refine j_iload_n C1 dX11_numbersOfCells_26 rfl rfl ?_
      refine j_aload_n C1 dX11_numbersOfCells_27 rfl rfl ?_
      refine gCRX11_204 C1 dX11_numbersOfCells_28 (W1.lt 15 (by decide)) (sh_15 W1) rfl ?_
      refine j_iload_n C1 dX11_numbersOfCells_31 rfl rfl ?_
      refine j_iald (k := 16) C1 dX11_numbersOfCells_32 (W1.lt 16 (by decide)) (sh_16 W1) (ini 28 (by omega) (by omega)) rfl ?_
      have go : ∀ x : Int32, FJ (xg X 1 12) Y ad1 (n + 1) (va_up S n (.inl (0, 12))) h' 46 [(1, .ref (ad1 15)), (2, .ref (ad1 n)), (3, .int (nI i))] [.int x, .int (nI i), .ref (ad1 n)] := fun x => by
        refine j_iast (k := n) C1 dX11_numbersOfCells_46 (by omega) sn (ini 12 (by omega) (by omega)) ?_
        refine j_iinc (v := nI (i + 1)) C1 dX11_numbersOfCells_47 rfl (by rw [nI_succ]; rfl) (by decide) rfl ?_
        refine j_goto (tgt := 19) C1 dX11_numbersOfCells_50 (by decide) ?_
        exact j_vl (ih (i + 1) _ (by omega) (fun k hk => (hs_row hk).trans (q1 k hk))) ⟨rfl, rfl, rfl, trivial⟩
      refine j_if_ne (tgt := 45) C1 dX11_numbersOfCells_33 (by decide) (fun _ => ?_) (fun _ => ?_)
      · refine j_iconst (v := 0) C1 dX11_numbersOfCells_45 (by decide) ?_
        exact go 0
      · refine j_aload_n C1 dX11_numbersOfCells_36 rfl rfl ?_
        refine gCRX11_207 C1 dX11_numbersOfCells_37 (W1.lt 15 (by decide)) (sh_15 W1) rfl ?_
        refine j_iload_n C1 dX11_numbersOfCells_40 rfl rfl ?_
        refine j_iald (k := 17) C1 dX11_numbersOfCells_41 (W1.lt 17 (by decide)) (sh_17 W1) (ini 28 (by omega) (by omega)) rfl ?_
        refine j_goto (tgt := 46) C1 dX11_numbersOfCells_42 (by decide) ?_
        exact go _
  exact j_vl (loop 12 0 _ (by omega) (fun k hk => va_up_ne _ _ hk)) ⟨rfl, rfl, rfl, trivial⟩)
end BOX2
