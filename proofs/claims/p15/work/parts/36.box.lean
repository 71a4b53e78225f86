/-! THE BOX: what makes objects for SHELVES -/
theorem xg_xg {X : fj_X} {a b c d : Nat} : xg (xg X a b) c d = xg X (a + c) (b + d) := by
  unfold xg
  simp only [Nat.add_assoc]
def KP (pr : Nat) (ad : Nat → Nat) (n : Nat) (hb : ph_H) (u : gU) : Prop := n ≤ u.1 ∧ (∀ k, k < n → u.2.1 k = ad k) ∧ WS pr u.1 u.2.2.1 ∧ KS u.1 u.2.2.1 u.2.2.2 ∧ ∀ k, k < 60 → u.2.2.2 k = hb k
theorem WS.push {pr n : Nat} {S : ph_S} {E : ph_E} (W : WS pr n S) : WS pr (n + 1) (va_up S n E) := ⟨Nat.le_succ_of_le W.1, fun k hk => by
  have := W.1
  rw [va_up_ne _ _ (by omega)]
  exact W.2 k hk⟩
theorem WS.set {pr n k : Nat} {S : ph_S} {E : ph_E} (W : WS pr n S) (hk : 59 ≤ k) : WS pr n (va_up S k E) := ⟨W.1, fun j hj => by
  rw [va_up_ne _ _ (by omega)]
  exact W.2 j hj⟩
theorem KS_set {n i : Nat} {S : ph_S} {h : ph_H} {g : Nat → Option Nat} {op : Option Nat} (k : KS n S h) (hg : S 59 = .inr (.inr (3, 8, g))) (o : ∀ p, op = some p → HO n S p) : KS n (va_up S 59 (.inr (.inr (3, 8, va_up g i op)))) h := by
  obtain ⟨⟨g', e, hh⟩, c, b⟩ := k
  rw [hg] at e
  cases e
  have up : ∀ j p, va_up g i op j = some p → HO n S p := fun j p q => by
    by_cases e : j = i
    · subst e
      rw [va_up_self] at q
      exact o p q
    · rw [va_up_ne _ _ e] at q
      exact hh j p q
  have ne : ∀ j, 60 ≤ j → j < n → va_up S 59 (.inr (.inr (3, 8, va_up g i op))) j = S j := fun j h1 _ => va_up_ne _ _ (by omega)
  refine ⟨⟨_, va_up_self .., fun j p q => (up j p q).mono (Nat.le_refl n) ne⟩, c.set (fun j r q => (up j r q).2.1), fun j len h1 h2 h3 => ?_⟩
  rw [ne j h1 h2] at h3
  exact b j len h1 h2 h3
/-- an object stands behind what was there -/
theorem KS_push {n : Nat} {S : ph_S} {h h' : ph_H} {E : ph_E} (hn : 60 ≤ n) (k : KS n S h) (hc : clE (n + 1) E) (hh : ∀ j, j < n → h' j = h j) (hb : ∀ len, E = .inl (2, len) → ∀ i, fits .byte (.int (h' n i)) = true) : KS (n + 1) (va_up S n E) h' := by
  obtain ⟨⟨g, e, o⟩, c, b⟩ := k
  refine ⟨⟨g, by rw [va_up_ne _ _ (by omega)]; exact e, fun i p q => (o i p q).mono (Nat.le_succ n) (fun j _ hj => va_up_ne _ _ (by omega))⟩, c.push hc, fun j len h1 h2 h3 i => ?_⟩
  by_cases e : j = n
  · subst e
    rw [va_up_self] at h3
    exact hb len h3 i
  · rw [va_up_ne _ _ e] at h3
    rw [hh j (by omega)]
    exact b j len h1 (by omega) h3 i
/-- an object behind 59 is changed -/
theorem KS_upd {n p : Nat} {S : ph_S} {h h' : ph_H} {E : ph_E} (k : KS n S h) (hp : 60 ≤ p ∧ p < n) (hc : clE n E) (ho : ∀ q, HO n S q → HO n (va_up S p E) q) (hb : ∀ j i, 60 ≤ j → j ≠ p → h' j i = h j i) (he : ∀ len, ¬ E = .inl (2, len)) : KS n (va_up S p E) h' := by
  obtain ⟨⟨g, e, o⟩, c, b⟩ := k
  refine ⟨⟨g, by rw [va_up_ne _ _ (by omega)]; exact e, fun i q w => ho q (o i q w)⟩, c.set hc, fun j len h1 h2 h3 i => ?_⟩
  by_cases e : j = p
  · subst e
    rw [va_up_self] at h3
    exact absurd h3 (he len)
  · rw [va_up_ne _ _ e] at h3
    rw [hb j i h1 e]
    exact b j len h1 h2 h3 i
section BOX
variable {l0 : Launch} {Y : fj_Y} {ad : Nat → Nat} {n : Nat} {S : ph_S} {h : ph_H} {pr : Nat}
/-- a SHELF gets what was made -/
theorem j_aastH {X : fj_X} {cc : ByteArray} {nL : Nat} {own : String} {rm : Room} {mc ms : Nat} {ret : Option FieldType} {pc : Nat} {lv : List (Nat × Value)} {st : List Value} (C : FC X Y l0 cc nL own rm mc ms ret) (E : FE X) {g : Nat → Option Nat} {i : Int32} {op : Option Nat} (hd : decode cc pc = .ok (.aastore, 1)) (hn : 60 ≤ n) (hg : S 59 = .inr (.inr (3, 8, g))) (hi : vp_in i 8) (o : ∀ p, op = some p → HO n S p) (kk : FJ X Y ad n (va_up S 59 (.inr (.inr (3, 8, va_up g i.toNatClampNeg op)))) h (pc + 1) lv st) : FJ X Y ad n S h pc lv (va_rf (op.map ad) :: .int i :: .ref (ad 59) :: st) := by
  cases op with
  | none => exact j_aastN C hd (by omega) hg hi kk
  | some p =>
    obtain ⟨o1, o2, o3⟩ := o p rfl
    rcases o3 with ⟨r, len, a, b, c, d, e⟩ | ⟨r, len, a, b, c, d, e⟩ | a | a | a
    · exact j_aastO (T := TX0) C E hd (by omega) hg hi o2 a rfl (by decide +kernel) kk
    · exact j_aastO (T := TX2) C E hd (by omega) hg hi o2 a rfl (by decide +kernel) kk
    · exact j_aastO (T := TX9) C E hd (by omega) hg hi o2 a rfl (by decide +kernel) kk
    · exact j_aastO (T := TX8) C E hd (by omega) hg hi o2 a rfl (by decide +kernel) kk
    · exact j_aastO (T := TX7) C E hd (by omega) hg hi o2 a rfl (by decide +kernel) kk
theorem isS_in {a0 : Int32} (c : ¬ FX11_isShelf a0 = 0) : vp_in a0 8 := iv_in ((SX11_isShelf a0).2.2 c) rfl
/-- a row behind what was there -/
theorem raI (U : State) (c : ClassId) (q : va_RA U c .int) : U.vm.findClass ("[" ++ FieldType.int.toString) = some c := q
theorem raB (U : State) (c : ClassId) (q : va_RA U c .byte) : U.vm.findClass ("[" ++ FieldType.byte.toString) = some c := q
theorem raZ (U : State) (c : ClassId) (q : va_RA U c .boolean) : U.vm.findClass ("[" ++ FieldType.boolean.toString) = some c := q
theorem clE_i {m t len : Nat} : clE m (.inl (t, len)) := trivial
theorem clE_H {m ci q : Nat} (hq : q < m) : clE m (.inr (.inl (ci, 2, rfH q))) := fun j r e => by
  unfold rfH at e
  split at e
  · cases e
    exact hq
  · cases e
theorem clE_z {m ci nf : Nat} {rf : Nat → Option (Option Nat)} : clE m (.inr (.inl (ci, nf, rz rf))) := fun j r e => (rz_cl e).elim
theorem clE_N {m ci nf : Nat} : clE m (.inr (.inl (ci, nf, rfN))) := fun j r e => by cases e
/-! make -/
def FX11_make (a0 a1 a2 : Int32) : Int32 := if FX11_isShelf a0 = 0 then (-1) else if a1 < 2 then (-1) else if 3 < a1 then (-1) else if a2 ≤ 60 then (if 0 ≤ a2 then 0 else (-14)) else (-1)
theorem mk_len {a2 : Int32} (c1 : a2 ≤ 60) (c2 : 0 ≤ a2) : ¬ a2 < 0 ∧ a2.toNatClampNeg ≤ 60 := by
  have z : (0 : Int32).toInt = 0 := by decide
  have s : (60 : Int32).toInt = 60 := by decide
  have t : a2.toNatClampNeg = a2.toInt.toNat := rfl
  rw [Int32.le_iff_toInt_le] at c1 c2
  rw [Int32.lt_iff_toInt_lt, t]
  omega
set_option maxRecDepth 100000 in
theorem GX11_make (W : WS pr n S) (ks : KS n S h) (a0 a1 a2 : Int32) : GM l0 yX11_make (.code yX11_make cX11_make 4 (some .int)) (mkR 3 2 62 54) Y ad n S h [.ref (ad 0), .int a0, .int a1, .int a2] (gQi Y ad n S h (fun r u => r = FX11_make a0 a1 a2 ∧ KP pr ad n h u)) := met_gi (by decide) (Nat.le_of_ble_eq_true rfl) (fun _ _ _ => rfl) (fun X C E N K => by
  refine j_vl (lv' := [(0, .ref (ad 0)), (1, .int a0), (2, .int a1), (3, .int a2)]) ?_ ⟨rfl, rfl, rfl, rfl, trivial⟩
  have h60 := W.1
  have kp : KP pr ad n h (n, ad, S, h) := ⟨Nat.le_refl _, fun _ _ => rfl, W, ks, fun _ _ => rfl⟩
  have bad : FX11_make a0 a1 a2 = -1 → ∀ lv, FJ X Y ad n S h 23 lv [] := fun e lv => by
    refine j_iconst (v := (-1)) C dX11_make_23 (by decide) ?_
    exact fj_xg1 (K (-1) (n, ad, S, h) 0 0 ⟨e.symm, kp⟩ (Nat.zero_le _) (Nat.zero_le _) _ _ dX11_make_24)
  unfold FX11_make at bad K
  refine j_iload_n C dX11_make_0 rfl rfl ?_
  refine j_callS C (MX11_isShelf W a0 h (SX11_isShelf a0).1) dX11_make_1 (CKX11_isShelf (by decide)) ⟨rfl, rfl⟩ lk_RX11_290 st_X11_isShelf rfl (Nat.le_of_ble_eq_true rfl) ?_
  intro r S' h' hq
  obtain ⟨e1, e2, e3, -⟩ := hq
  rw [e1, e2, e3]
  refine j_if_eq (tgt := 23) C dX11_make_4 (by decide) (fun c => bad (by rw [if_pos c]) _) (fun c0 => ?_)
  rw [if_neg c0] at bad
  refine j_iload_n C dX11_make_7 rfl rfl ?_
  refine j_iconst (v := 2) C dX11_make_8 (by decide) ?_
  refine j_icmp_lt (tgt := 23) C dX11_make_9 (by decide) (fun c => bad (by rw [if_pos c]) _) (fun c1 => ?_)
  rw [if_neg c1] at bad
  refine j_iload_n C dX11_make_12 rfl rfl ?_
  refine j_iconst (v := 3) C dX11_make_13 (by decide) ?_
  refine j_icmp_gt (tgt := 23) C dX11_make_14 (by decide) (fun c => bad (by rw [if_pos c]) _) (fun c2 => ?_)
  rw [if_neg c2] at bad
  refine j_iload_n C dX11_make_17 rfl rfl ?_
  refine j_bipush (v := 60) C dX11_make_18 (by decide) ?_
  refine j_icmp_le (tgt := 25) C dX11_make_20 (by decide) (fun c3 => ?_) (fun c => bad (by rw [if_neg c]) _)
  refine j_iload_n C dX11_make_25 rfl rfl ?_
  refine j_if_ge (tgt := 32) C dX11_make_26 (by decide) (fun c4 => ?_) (fun c4 => ?_)
  · obtain ⟨hz, hN⟩ := mk_len c3 c4
    have ans : (0 : Int32) = (if FX11_isShelf a0 = 0 then (-1) else if a1 < 2 then (-1) else if 3 < a1 then (-1) else if a2 ≤ 60 then (if 0 ≤ a2 then 0 else (-14)) else (-1)) := by rw [if_neg c0, if_neg c1, if_neg c2, if_pos c3, if_pos c4]
    obtain ⟨g, hg, -⟩ := id ks.1
    refine j_iload_n C dX11_make_32 rfl rfl ?_
    refine j_iconst (v := 2) C dX11_make_33 (by decide) ?_
    refine j_icmp_ne (tgt := 56) C dX11_make_34 (by decide) (fun _ => ?_) (fun _ => ?_)
    · refine j_aload_n C dX11_make_56 rfl rfl ?_
      refine gCRX11_58 C dX11_make_57 (W.lt 0 (by decide)) (sh_0 W) rfl ?_
      refine j_iload_n C dX11_make_60 rfl rfl ?_
      refine j_vl (lv' := [(3, .int a2)]) ?_ ⟨rfl, trivial⟩
      refine j_new (ci := 1) (rf := rfH 0) (T := TX2) C dX11_make_61 rfl inX2 tyX2_ok cl_RX11_309 is_X2 iz_X2 (by decide +kernel) ks.2.1 (by decide) (by decide) (fun ad1 hA1 => ?_)
      rw [← hA1 59 (by omega)]
      have C1 := C.g (a := 1) (b := 2) (by decide) (by decide)
      have ks1 := KS_push (E := .inr (.inl (1, 2, rz (rfH 0)))) (h' := va_up h n (fun _ => 0)) h60 ks clE_z (fun j hj => va_up_ne _ _ (by omega)) (fun len e => by cases e)
      refine j_dup C1 dX11_make_64 rfl ?_
      refine j_iload_n C1 dX11_make_65 rfl rfl ?_
      refine j_newa (t := 0) (N := a2.toNatClampNeg) C1 dX11_make_66 rfl ar_int (fun _ => rfl) raI (by decide +kernel) hz rfl (by show _ * 4 ≤ _; omega) ks1.2.1 (by decide) (by show 0 + 2 + _ ≤ 62; omega) (fun ad2 hA2 => ?_)
      rw [← hA2 59 (by omega), ← hA2 n (by omega)]
      have C2 := C1.g (a := 1) (b := a2.toNatClampNeg) (by decide) (by show 0 + 2 + _ ≤ 62; omega)
      have ks2 := KS_push (E := .inl (0, a2.toNatClampNeg)) (h' := va_up (va_up h n (fun _ => 0)) (n + 1) (fun _ => 0)) (by omega) ks1 clE_i (fun j hj => va_up_ne _ _ (by omega)) (fun len e i => by rw [va_up_self]; rfl)
      refine j_gv C2 (gr_I (av := [.ref (ad2 (n + 1))]) C2 E (GX2_init (r := 0) (by omega) (by rw [va_up_ne _ _ (by omega), va_up_self])) dX11_make_68 (CKX2_init (by decide)) C2.room lk_RX11_311 in_X2_init rfl rfl (Nat.le_of_ble_eq_true rfl)) ?_
      rintro u rfl
      refine fj_xg0 ?_
      have ho : HO (n + 1 + 1) (va_up (va_up (va_up S n (.inr (.inl (1, 2, rz (rfH 0))))) (n + 1) (.inl (0, a2.toNatClampNeg))) n (.inr (.inl (1, 2, rfH (n + 1))))) n := ⟨h60, by omega, Or.inr (Or.inl ⟨n + 1, a2.toNatClampNeg, by rw [va_up_self], by omega, by omega, by rw [va_up_ne _ _ (by omega), va_up_self], hN⟩)⟩
      have ks3 := KS_upd (h' := hs (va_up (va_up h n (fun _ => 0)) (n + 1) (fun _ => 0)) n 0 0) (p := n) ks2 ⟨h60, by omega⟩ (clE_H (ci := 1) (q := n + 1) (by omega)) (fun q w => by
        by_cases e : q = n
        · subst e
          exact ho
        · have hk := w.1
          have hq := w.2.1
          refine ⟨hk, hq, ?_⟩
          have w3 := w.2.2
          rw [va_up_ne _ _ e]
          have ne : ∀ r, r = n ∨ va_up (va_up (va_up S n (.inr (.inl (1, 2, rz (rfH 0))))) (n + 1) (.inl (0, a2.toNatClampNeg))) n (.inr (.inl (1, 2, rfH (n + 1)))) r = va_up (va_up S n (.inr (.inl (1, 2, rz (rfH 0))))) (n + 1) (.inl (0, a2.toNatClampNeg)) r := fun r => (Classical.em (r = n)).imp id (fun z => va_up_ne _ _ z)
          have no : ∀ {r t len}, va_up (va_up S n (.inr (.inl (1, 2, rz (rfH 0))))) (n + 1) (.inl (0, a2.toNatClampNeg)) r = .inl (t, len) → ¬ r = n := fun {r t len} z e => by
            subst e
            rw [va_up_ne _ _ (by omega), va_up_self] at z
            cases z
          rcases w3 with ⟨r, len, a, b, c, d, e⟩ | ⟨r, len, a, b, c, d, e⟩ | a | a | a
          · exact Or.inl ⟨r, len, a, b, c, ((ne r).resolve_left (no d)).trans d, e⟩
          · exact Or.inr (Or.inl ⟨r, len, a, b, c, ((ne r).resolve_left (no d)).trans d, e⟩)
          · exact Or.inr (Or.inr (Or.inl a))
          · exact Or.inr (Or.inr (Or.inr (Or.inl a)))
          · exact Or.inr (Or.inr (Or.inr (Or.inr a)))) (fun j i _ e => hs_o (fun z => e z.1)) (fun len e => by cases e)
      have hg3 : (va_up (va_up (va_up S n (.inr (.inl (1, 2, rz (rfH 0))))) (n + 1) (.inl (0, a2.toNatClampNeg))) n (.inr (.inl (1, 2, rfH (n + 1))))) 59 = .inr (.inr (3, 8, g)) := by rw [va_up_ne _ _ (by omega), va_up_ne _ _ (by omega), va_up_ne _ _ (by omega)]; exact hg
      refine j_aastH (op := some n) C2 E dX11_make_71 (by omega) hg3 (isS_in c0) (fun p e => by cases e; exact ho) ?_
      have W3 : WS pr (n + 1 + 1) (va_up (va_up (va_up S n (.inr (.inl (1, 2, rz (rfH 0))))) (n + 1) (.inl (0, a2.toNatClampNeg))) n (.inr (.inl (1, 2, rfH (n + 1))))) := W.push.push.set (by omega)
      have fin : KP pr ad n h (n + 1 + 1, ad2, va_up (va_up (va_up (va_up S n (.inr (.inl (1, 2, rz (rfH 0))))) (n + 1) (.inl (0, a2.toNatClampNeg))) n (.inr (.inl (1, 2, rfH (n + 1))))) 59 (.inr (.inr (3, 8, va_up g a0.toNatClampNeg (some n)))), hs (va_up (va_up h n (fun _ => 0)) (n + 1) (fun _ => 0)) n 0 0) := ⟨by show n ≤ n + 1 + 1; omega, fun k hk => (hA2 k (by omega)).trans (hA1 k hk), W3.set (by omega), KS_set ks3 hg3 (fun p e => by cases e; exact ho), fun k hk => by
        show hs (va_up (va_up h n (fun _ => 0)) (n + 1) (fun _ => 0)) n 0 0 k = h k
        funext i
        rw [hs_o (fun z => absurd z.1 (by omega)), va_up_ne _ _ (by omega), va_up_ne _ _ (by omega)]⟩
      refine j_iconst (v := 0) C2 dX11_make_72 (by decide) ?_
      rw [xg_xg]
      exact K 0 _ (1 + 1) (2 + a2.toNatClampNeg) ⟨ans, fin⟩ (by decide) (by show 2 + _ ≤ 62; omega) _ _ dX11_make_73
    · refine j_aload_n C dX11_make_37 rfl rfl ?_
      refine gCRX11_58 C dX11_make_38 (W.lt 0 (by decide)) (sh_0 W) rfl ?_
      refine j_iload_n C dX11_make_41 rfl rfl ?_
      refine j_vl (lv' := [(3, .int a2)]) ?_ ⟨rfl, trivial⟩
      refine j_new (ci := 0) (rf := rfH 0) (T := TX0) C dX11_make_42 rfl inX0 tyX0_ok cl_RX11_304 is_X0 iz_X0 (by decide +kernel) ks.2.1 (by decide) (by decide) (fun ad1 hA1 => ?_)
      rw [← hA1 59 (by omega)]
      have C1 := C.g (a := 1) (b := 2) (by decide) (by decide)
      have ks1 := KS_push (E := .inr (.inl (0, 2, rz (rfH 0)))) (h' := va_up h n (fun _ => 0)) h60 ks clE_z (fun j hj => va_up_ne _ _ (by omega)) (fun len e => by cases e)
      refine j_dup C1 dX11_make_45 rfl ?_
      refine j_iload_n C1 dX11_make_46 rfl rfl ?_
      refine j_newa (t := 2) (N := a2.toNatClampNeg) C1 dX11_make_47 rfl ar_byte (fun _ => rfl) raB (by decide +kernel) hz rfl (by show _ * 1 ≤ _; omega) ks1.2.1 (by decide) (by show 0 + 2 + _ ≤ 62; omega) (fun ad2 hA2 => ?_)
      rw [← hA2 59 (by omega), ← hA2 n (by omega)]
      have C2 := C1.g (a := 1) (b := a2.toNatClampNeg) (by decide) (by show 0 + 2 + _ ≤ 62; omega)
      have ks2 := KS_push (E := .inl (2, a2.toNatClampNeg)) (h' := va_up (va_up h n (fun _ => 0)) (n + 1) (fun _ => 0)) (by omega) ks1 clE_i (fun j hj => va_up_ne _ _ (by omega)) (fun len e i => by rw [va_up_self]; rfl)
      refine j_gv C2 (gr_I (av := [.ref (ad2 (n + 1))]) C2 E (GX0_init (r := 0) (by omega) (by rw [va_up_ne _ _ (by omega), va_up_self])) dX11_make_49 (CKX0_init (by decide)) C2.room lk_RX11_306 in_X0_init rfl rfl (Nat.le_of_ble_eq_true rfl)) ?_
      rintro u rfl
      refine fj_xg0 ?_
      have ho : HO (n + 1 + 1) (va_up (va_up (va_up S n (.inr (.inl (0, 2, rz (rfH 0))))) (n + 1) (.inl (2, a2.toNatClampNeg))) n (.inr (.inl (0, 2, rfH (n + 1))))) n := ⟨h60, by omega, Or.inl ⟨n + 1, a2.toNatClampNeg, by rw [va_up_self], by omega, by omega, by rw [va_up_ne _ _ (by omega), va_up_self], hN⟩⟩
      have ks3 := KS_upd (h' := hs (va_up (va_up h n (fun _ => 0)) (n + 1) (fun _ => 0)) n 0 0) (p := n) ks2 ⟨h60, by omega⟩ (clE_H (ci := 0) (q := n + 1) (by omega)) (fun q w => by
        by_cases e : q = n
        · subst e
          exact ho
        · have hk := w.1
          have hq := w.2.1
          refine ⟨hk, hq, ?_⟩
          have w3 := w.2.2
          rw [va_up_ne _ _ e]
          have ne : ∀ r, r = n ∨ va_up (va_up (va_up S n (.inr (.inl (0, 2, rz (rfH 0))))) (n + 1) (.inl (2, a2.toNatClampNeg))) n (.inr (.inl (0, 2, rfH (n + 1)))) r = va_up (va_up S n (.inr (.inl (0, 2, rz (rfH 0))))) (n + 1) (.inl (2, a2.toNatClampNeg)) r := fun r => (Classical.em (r = n)).imp id (fun z => va_up_ne _ _ z)
          have no : ∀ {r t len}, va_up (va_up S n (.inr (.inl (0, 2, rz (rfH 0))))) (n + 1) (.inl (2, a2.toNatClampNeg)) r = .inl (t, len) → ¬ r = n := fun {r t len} z e => by
            subst e
            rw [va_up_ne _ _ (by omega), va_up_self] at z
            cases z
          rcases w3 with ⟨r, len, a, b, c, d, e⟩ | ⟨r, len, a, b, c, d, e⟩ | a | a | a
          · exact Or.inl ⟨r, len, a, b, c, ((ne r).resolve_left (no d)).trans d, e⟩
          · exact Or.inr (Or.inl ⟨r, len, a, b, c, ((ne r).resolve_left (no d)).trans d, e⟩)
          · exact Or.inr (Or.inr (Or.inl a))
          · exact Or.inr (Or.inr (Or.inr (Or.inl a)))
          · exact Or.inr (Or.inr (Or.inr (Or.inr a)))) (fun j i _ e => hs_o (fun z => e z.1)) (fun len e => by cases e)
      have hg3 : (va_up (va_up (va_up S n (.inr (.inl (0, 2, rz (rfH 0))))) (n + 1) (.inl (2, a2.toNatClampNeg))) n (.inr (.inl (0, 2, rfH (n + 1))))) 59 = .inr (.inr (3, 8, g)) := by rw [va_up_ne _ _ (by omega), va_up_ne _ _ (by omega), va_up_ne _ _ (by omega)]; exact hg
      refine j_aastH (op := some n) C2 E dX11_make_52 (by omega) hg3 (isS_in c0) (fun p e => by cases e; exact ho) ?_
      have W3 : WS pr (n + 1 + 1) (va_up (va_up (va_up S n (.inr (.inl (0, 2, rz (rfH 0))))) (n + 1) (.inl (2, a2.toNatClampNeg))) n (.inr (.inl (0, 2, rfH (n + 1))))) := W.push.push.set (by omega)
      have fin : KP pr ad n h (n + 1 + 1, ad2, va_up (va_up (va_up (va_up S n (.inr (.inl (0, 2, rz (rfH 0))))) (n + 1) (.inl (2, a2.toNatClampNeg))) n (.inr (.inl (0, 2, rfH (n + 1))))) 59 (.inr (.inr (3, 8, va_up g a0.toNatClampNeg (some n)))), hs (va_up (va_up h n (fun _ => 0)) (n + 1) (fun _ => 0)) n 0 0) := ⟨by show n ≤ n + 1 + 1; omega, fun k hk => (hA2 k (by omega)).trans (hA1 k hk), W3.set (by omega), KS_set ks3 hg3 (fun p e => by cases e; exact ho), fun k hk => by
        show hs (va_up (va_up h n (fun _ => 0)) (n + 1) (fun _ => 0)) n 0 0 k = h k
        funext i
        rw [hs_o (fun z => absurd z.1 (by omega)), va_up_ne _ _ (by omega), va_up_ne _ _ (by omega)]⟩
      refine j_goto (tgt := 72) C2 dX11_make_53 (by decide) ?_
      refine j_iconst (v := 0) C2 dX11_make_72 (by decide) ?_
      rw [xg_xg]
      exact K 0 _ (1 + 1) (2 + a2.toNatClampNeg) ⟨ans, fin⟩ (by decide) (by show 2 + _ ≤ 62; omega) _ _ dX11_make_73
  · refine j_bipush (v := (-14)) C dX11_make_29 (by decide) ?_
    exact fj_xg1 (K (-14) (n, ad, S, h) 0 0 ⟨by rw [if_neg c0, if_neg c1, if_neg c2, if_pos c3, if_neg c4], kp⟩ (Nat.zero_le _) (Nat.zero_le _) _ _ dX11_make_31))
end BOX
