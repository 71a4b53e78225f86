/-! WHAT SHELVES HOLD: rows of bytes and ints, THINGS; their methods are safe whatever they are. -/
abbrev mkR (f c s l : Nat) : Room := { frames := f, cells := c, slots := s, locals := l }
theorem fj_xg0 {X : fj_X} {Y : fj_Y} {ad : Nat → Nat} {n : Nat} {S : ph_S} {h : ph_H} {pc : Nat} {lv : List (Nat × Value)} {st : List Value} (k : FJ X Y ad n S h pc lv st) : FJ (xg X 0 0) Y ad n S h pc lv st := k
theorem fj_xg1 {X : fj_X} {Y : fj_Y} {ad : Nat → Nat} {n : Nat} {S : ph_S} {h : ph_H} {pc : Nat} {lv : List (Nat × Value)} {st : List Value} (k : FJ (xg X 0 0) Y ad n S h pc lv st) : FJ X Y ad n S h pc lv st := k
def rfH (q : Nat) : Nat → Option (Option Nat) := fun j => match j with
  | 1 => some (some q)
  | _ => none
def rfN : Nat → Option (Option Nat) := fun _ => none
theorem rfH_up {q r : Nat} : va_up (rz (rfH r)) 1 (some (some q)) = rfH q := by
  funext j
  by_cases e : j = 1
  · subst e
    rw [va_up_self]
    rfl
  · rw [va_up_ne _ _ e]
    unfold rz rfH
    split
    · exact absurd rfl e
    · rfl
theorem rz_N : rz rfN = rfN := rfl
/-- place p is something that a SHELF can hold -/
def HO (n : Nat) (S : ph_S) (p : Nat) : Prop := 60 ≤ p ∧ p < n ∧ ((∃ q len, S p = .inr (.inl (0, 2, rfH q)) ∧ 60 ≤ q ∧ q < n ∧ S q = .inl (2, len) ∧ len ≤ 60) ∨ (∃ q len, S p = .inr (.inl (1, 2, rfH q)) ∧ 60 ≤ q ∧ q < n ∧ S q = .inl (0, len) ∧ len ≤ 60) ∨ S p = .inr (.inl (8, 2, rfN)) ∨ S p = .inr (.inl (7, 1, rfN)) ∨ S p = .inr (.inl (6, 1, rfN)))
theorem HO.mono {n n' : Nat} {S S' : ph_S} {p : Nat} (o : HO n S p) (hn : n ≤ n') (hS : ∀ k, 60 ≤ k → k < n → S' k = S k) : HO n' S' p := by
  obtain ⟨h1, h2, h3⟩ := o
  refine ⟨h1, Nat.lt_of_lt_of_le h2 hn, ?_⟩
  rw [hS p h1 h2]
  rcases h3 with ⟨q, len, a, b, c, d, e⟩ | ⟨q, len, a, b, c, d, e⟩ | a | a | a
  · exact Or.inl ⟨q, len, a, b, Nat.lt_of_lt_of_le c hn, (hS q b c).trans d, e⟩
  · exact Or.inr (Or.inl ⟨q, len, a, b, Nat.lt_of_lt_of_le c hn, (hS q b c).trans d, e⟩)
  · exact Or.inr (Or.inr (Or.inl a))
  · exact Or.inr (Or.inr (Or.inr (Or.inl a)))
  · exact Or.inr (Or.inr (Or.inr (Or.inr a)))
/-- byte rows hold bytes -/
def BY (n : Nat) (S : ph_S) (h : ph_H) : Prop := ∀ k len, 60 ≤ k → k < n → S k = .inl (2, len) → ∀ i, fits .byte (.int (h k i)) = true
/-- the SHELVES -/
def KS (n : Nat) (S : ph_S) (h : ph_H) : Prop := (∃ g, S 59 = .inr (.inr (3, 8, g)) ∧ ∀ i p, g i = some p → HO n S p) ∧ clS n S ∧ BY n S h
theorem nar_byte (x : Int32) : fits .byte (.int (vp_nar .byte x)) = true := by
  rw [vp_nar_byte]
  show (decide (-128 ≤ x.toInt8.toInt32) && decide (x.toInt8.toInt32 ≤ 127)) = true
  have e : x.toInt8.toInt32.toInt = x.toInt8.toInt := Int8.toInt_toInt32 _
  have h1 := Int8.toInt_lt x.toInt8
  have h2 := Int8.le_toInt x.toInt8
  have a1 : (-128 : Int32).toInt = -128 := by decide
  have a2 : (127 : Int32).toInt = 127 := by decide
  simp only [Bool.and_eq_true, decide_eq_true_eq, Int32.le_iff_toInt_le]
  rw [e, a1, a2]
  omega
theorem oN_i {len : Nat} (hl : len ≤ 60) : (Int32.ofNat len).toInt = (len : Int) := nI_toInt (n := len) (by omega)
theorem in_of {i : Int32} {len : Nat} (h0 : ¬ i < 0) (h1 : ¬ Int32.ofNat len ≤ i) (hl : len ≤ 60) : vp_in i len := by
  have z : (0 : Int32).toInt = 0 := by decide
  have t : i.toNatClampNeg = i.toInt.toNat := rfl
  rw [Int32.le_iff_toInt_le, oN_i hl] at h1
  rw [Int32.lt_iff_toInt_lt] at h0
  intro w
  rcases w with w | w
  · rw [Int32.lt_iff_toInt_lt] at w
    omega
  · rw [t] at w
    omega
theorem fits_cp {i j m : Int32} {n0 n1 : Nat} (h0 : n0 ≤ 60) (h1 : n1 ≤ 60) (a : ¬ FX11_fits i m (Int32.ofNat n0) = 0) (b : ¬ FX11_fits j m (Int32.ofNat n1) = 0) : cpok i j m n0 n1 := by
  have z : (0 : Int32).toInt = 0 := by decide
  have t : ∀ v : Int32, v.toNatClampNeg = v.toInt.toNat := fun _ => rfl
  have sub : ∀ {len : Nat} {x : Int32}, len ≤ 60 → ¬ x < 0 → ¬ Int32.ofNat len < x → (Int32.ofNat len - x).toInt = (len : Int) - x.toInt := fun {len x} hl h2 h3 => by
    rw [Int32.lt_iff_toInt_lt] at h2 h3
    rw [oN_i hl] at h3
    have f : iv 0 60 (Int32.ofNat len) := by unfold iv; rw [oN_i hl]; omega
    have g : iv 0 60 x := by unfold iv; omega
    have s := Int32.toInt_sub (Int32.ofNat len) x
    rw [s, oN_i hl]
    have := Int.bmod_eq_of_le (n := (len : Int) - x.toInt) (m := 2 ^ 32) (by omega) (by omega)
    exact this
  have key : ∀ {x : Int32} {len : Nat}, len ≤ 60 → ¬ FX11_fits x m (Int32.ofNat len) = 0 → ¬ m < 0 ∧ ¬ x < 0 ∧ x.toInt + m.toInt ≤ (len : Int) := fun {x len} hl q => by
    unfold FX11_fits at q
    by_cases c1 : m < 0
    · rw [if_pos c1] at q; exact absurd rfl q
    · rw [if_neg c1] at q
      by_cases c2 : x < 0
      · rw [if_pos c2] at q; exact absurd rfl q
      · rw [if_neg c2] at q
        by_cases c3 : Int32.ofNat len < m
        · rw [if_pos c3] at q; exact absurd rfl q
        · rw [if_neg c3] at q
          by_cases c4 : (Int32.ofNat len - m) < x
          · rw [if_pos c4] at q; exact absurd rfl q
          · refine ⟨c1, c2, ?_⟩
            rw [Int32.lt_iff_toInt_lt, sub hl c1 c3] at c4
            omega
  obtain ⟨k1, k2, k3⟩ := key h0 a
  obtain ⟨_, k5, k6⟩ := key h1 b
  have m1 := k1
  have i1 := k2
  have j1 := k5
  rw [Int32.lt_iff_toInt_lt, z] at m1 i1 j1
  refine ⟨k2, k5, k1, ?_, ?_⟩ <;> (rw [t, t]; omega)
section HELD
variable {l0 : Launch} {Y : fj_Y} {ad : Nat → Nat} {n : Nat} {S : ph_S} {h : ph_H} {pr : Nat}
/-! made anew -/
theorem GX1_init {p ci nf : Nat} {rf : Nat → Option (Option Nat)} {Cn : String} {T : u_T} {ty0 : Nat → FieldType} (v : Int32) (hp : p < n) (hS : S p = .inr (.inl (ci, nf, rf))) (hcl : vwCl[ci]? = some (Cn, T, nf)) (hin : ∀ w ∈ u_ws Cn T nf, w ∈ TW) (hty : ∀ k, k < nf → parseFieldDescriptor (T k).2.2.1 = some (ty0 k)) (hnm : ∀ a, a < nf → ∀ b, b < nf → a ≠ b → (T a).2.1 ≠ (T b).2.1) (h0 : 0 < nf) (hT : T 0 = ("ReplayBox$Held", "number", "I", true)) (hrf : rf 0 = none) : GM l0 yX1_init (.code yX1_init cX1_init 2 none) (mkR 1 0 0 12) Y ad n S h [.ref (ad p), .int v] (gQv Y ad n S h (fun u => u = (n, ad, S, hs h p 0 v))) := met_gv (by decide) (Nat.le_of_ble_eq_true rfl) (fun X C E N K => by
  refine j_vl (lv' := [(0, .ref (ad p)), (1, .int v)]) ?_ ⟨rfl, rfl, trivial⟩
  refine j_aload_n C dX1_init_0 rfl rfl ?_
  refine j_objInit C dX1_init_1 lo_RX1_1 oi_i oi_c (by decide) (by decide) ?_
  refine j_aload_n C dX1_init_4 rfl rfl ?_
  refine j_iload_n C dX1_init_5 rfl rfl ?_
  refine j_putFi (j := 0) (ref := "ReplayBox$Held") C N dX1_init_6 hp hS hcl hin hty hnm h0 (by rw [hT]; exact fl_RX1_7) (by rw [hT]) (by rw [hT]) (by rw [hT]; rfl) hrf (by rw [hT]; decide +kernel) ?_
  exact fj_xg1 (K _ 0 0 rfl (Nat.zero_le _) (Nat.zero_le _) _ _ dX1_init_9))
theorem GX0_init {p q r : Nat} (hp : p < n) (hS : S p = .inr (.inl (0, 2, rz (rfH r)))) : GM l0 yX0_init (.code yX0_init cX0_init 2 none) (mkR 2 0 0 33) Y ad n S h [.ref (ad p), .ref (ad q)] (gQv Y ad n S h (fun u => u = (n, ad, va_up S p (.inr (.inl (0, 2, rfH q))), hs h p 0 0))) := met_gv (by decide) (Nat.le_of_ble_eq_true rfl) (fun X C E N K => by
  refine j_vl (lv' := [(0, .ref (ad p)), (1, .ref (ad q))]) ?_ ⟨rfl, rfl, trivial⟩
  refine j_aload_n C dX0_init_0 rfl rfl ?_
  refine j_iconst (v := 0) C dX0_init_1 (by decide) ?_
  refine j_gv C (gr_I C E (GX1_init (T := TX0) 0 hp hS rfl inX0 tyX0_ok nmX0 (by decide) rfl rfl) dX0_init_2 (CKX1_init (by decide)) ⟨by decide, by decide⟩ lk_RX0_1 in_X1_init rfl rfl (Nat.le_of_ble_eq_true rfl)) ?_
  rintro u rfl
  refine fj_xg0 ?_
  refine j_aload_n C dX0_init_5 rfl rfl ?_
  refine j_aload_n C dX0_init_6 rfl rfl ?_
  refine j_putFr (j := 1) (ty := .array .byte) C N dX0_init_7 hp hS rfl inX0 tyX0_ok nmX0 (by decide) fl_RX0_7 rfl rfl rfl (by decide +kernel) (fun _ => rfl) (fun _ => rfl) ?_
  rw [rfH_up]
  exact fj_xg1 (K _ 0 0 rfl (Nat.zero_le _) (Nat.zero_le _) _ _ dX0_init_10))
theorem GX2_init {p q r : Nat} (hp : p < n) (hS : S p = .inr (.inl (1, 2, rz (rfH r)))) : GM l0 yX2_init (.code yX2_init cX2_init 2 none) (mkR 2 0 0 33) Y ad n S h [.ref (ad p), .ref (ad q)] (gQv Y ad n S h (fun u => u = (n, ad, va_up S p (.inr (.inl (1, 2, rfH q))), hs h p 0 0))) := met_gv (by decide) (Nat.le_of_ble_eq_true rfl) (fun X C E N K => by
  refine j_vl (lv' := [(0, .ref (ad p)), (1, .ref (ad q))]) ?_ ⟨rfl, rfl, trivial⟩
  refine j_aload_n C dX2_init_0 rfl rfl ?_
  refine j_iconst (v := 0) C dX2_init_1 (by decide) ?_
  refine j_gv C (gr_I C E (GX1_init (T := TX2) 0 hp hS rfl inX2 tyX2_ok nmX2 (by decide) rfl rfl) dX2_init_2 (CKX1_init (by decide)) ⟨by decide, by decide⟩ lk_RX2_1 in_X1_init rfl rfl (Nat.le_of_ble_eq_true rfl)) ?_
  rintro u rfl
  refine fj_xg0 ?_
  refine j_aload_n C dX2_init_5 rfl rfl ?_
  refine j_aload_n C dX2_init_6 rfl rfl ?_
  refine j_putFr (j := 1) (ty := .array .int) C N dX2_init_7 hp hS rfl inX2 tyX2_ok nmX2 (by decide) fl_RX2_7 rfl rfl rfl (by decide +kernel) (fun _ => rfl) (fun _ => rfl) ?_
  rw [rfH_up]
  exact fj_xg1 (K _ 0 0 rfl (Nat.zero_le _) (Nat.zero_le _) _ _ dX2_init_10))
theorem GX8_init_of {p ci nf : Nat} {rf : Nat → Option (Option Nat)} {Cn : String} {T : u_T} {ty0 : Nat → FieldType} (v : Int32) (hp : p < n) (hS : S p = .inr (.inl (ci, nf, rf))) (hcl : vwCl[ci]? = some (Cn, T, nf)) (hin : ∀ w ∈ u_ws Cn T nf, w ∈ TW) (hty : ∀ k, k < nf → parseFieldDescriptor (T k).2.2.1 = some (ty0 k)) (hnm : ∀ a, a < nf → ∀ b, b < nf → a ≠ b → (T a).2.1 ≠ (T b).2.1) (h0 : 0 < nf) (hT : T 0 = ("ReplayBox$Held", "number", "I", true)) (hrf : rf 0 = none) : GM l0 yX8_init (.code yX8_init cX8_init 2 none) (mkR 2 0 0 33) Y ad n S h [.ref (ad p), .int v] (gQv Y ad n S h (fun u => u = (n, ad, S, hs h p 0 v))) := met_gv (by decide) (Nat.le_of_ble_eq_true rfl) (fun X C E N K => by
  refine j_vl (lv' := [(0, .ref (ad p)), (1, .int v)]) ?_ ⟨rfl, rfl, trivial⟩
  refine j_aload_n C dX8_init_0 rfl rfl ?_
  refine j_iload_n C dX8_init_1 rfl rfl ?_
  refine j_gv C (gr_I C E (GX1_init v hp hS hcl hin hty hnm h0 hT hrf) dX8_init_2 (CKX1_init (by decide)) ⟨by decide, by decide⟩ lk_RX8_1 in_X1_init rfl rfl (Nat.le_of_ble_eq_true rfl)) ?_
  rintro u rfl
  exact K _ 0 0 rfl (Nat.zero_le _) (Nat.zero_le _) _ _ dX8_init_5)
theorem GX8_init {p : Nat} (v : Int32) (hp : p < n) (hS : S p = .inr (.inl (7, 1, rfN))) : GM l0 yX8_init (.code yX8_init cX8_init 2 none) (mkR 2 0 0 33) Y ad n S h [.ref (ad p), .int v] (gQv Y ad n S h (fun u => u = (n, ad, S, hs h p 0 v))) := GX8_init_of (T := TX8) v hp hS rfl inX8 tyX8_ok nmX8 (by decide) rfl rfl
theorem GX7_init {p : Nat} (v : Int32) (hp : p < n) (hS : S p = .inr (.inl (6, 1, rfN))) : GM l0 yX7_init (.code yX7_init cX7_init 2 none) (mkR 3 0 0 54) Y ad n S h [.ref (ad p), .int v] (gQv Y ad n S h (fun u => u = (n, ad, S, hs h p 0 v))) := met_gv (by decide) (Nat.le_of_ble_eq_true rfl) (fun X C E N K => by
  refine j_vl (lv' := [(0, .ref (ad p)), (1, .int v)]) ?_ ⟨rfl, rfl, trivial⟩
  refine j_aload_n C dX7_init_0 rfl rfl ?_
  refine j_iload_n C dX7_init_1 rfl rfl ?_
  refine j_gv C (gr_I C E (GX8_init_of (T := TX7) v hp hS rfl inX7 tyX7_ok nmX7 (by decide) rfl rfl) dX7_init_2 (CKX8_init (by decide)) ⟨by decide, by decide⟩ lk_RX7_1 in_X8_init rfl rfl (Nat.le_of_ble_eq_true rfl)) ?_
  rintro u rfl
  exact K _ 0 0 rfl (Nat.zero_le _) (Nat.zero_le _) _ _ dX7_init_5)
theorem GX9_init {p : Nat} (v w : Int32) (hp : p < n) (hS : S p = .inr (.inl (8, 2, rfN))) : GM l0 yX9_init (.code yX9_init cX9_init 3 none) (mkR 2 0 0 33) Y ad n S h [.ref (ad p), .int v, .int w] (gQv Y ad n S h (fun u => u = (n, ad, S, hs (hs h p 0 v) p 1 w))) := met_gv (by decide) (Nat.le_of_ble_eq_true rfl) (fun X C E N K => by
  refine j_vl (lv' := [(0, .ref (ad p)), (1, .int v), (2, .int w)]) ?_ ⟨rfl, rfl, rfl, trivial⟩
  refine j_aload_n C dX9_init_0 rfl rfl ?_
  refine j_iload_n C dX9_init_1 rfl rfl ?_
  refine j_gv C (gr_I C E (GX1_init (T := TX9) v hp hS rfl inX9 tyX9_ok nmX9 (by decide) rfl rfl) dX9_init_2 (CKX1_init (by decide)) ⟨by decide, by decide⟩ lk_RX9_1 in_X1_init rfl rfl (Nat.le_of_ble_eq_true rfl)) ?_
  rintro u rfl
  refine fj_xg0 ?_
  refine j_aload_n C dX9_init_5 rfl rfl ?_
  refine j_iload_n C dX9_init_6 rfl rfl ?_
  refine j_putFi (j := 1) (ref := "ReplayBox$ShelvedRow") C N dX9_init_7 hp hS rfl inX9 tyX9_ok nmX9 (by decide) fl_RX9_7 rfl rfl rfl rfl (by decide +kernel) ?_
  exact fj_xg1 (K _ 0 0 rfl (Nat.zero_le _) (Nat.zero_le _) _ _ dX9_init_10))
/-! read -/
abbrev PZ (n : Nat) (ad : Nat → Nat) (S : ph_S) (h : ph_H) : Int32 → gU → Prop := fun _ u => u = (n, ad, S, h)
abbrev PB (n : Nat) (ad : Nat → Nat) (S : ph_S) (h : ph_H) : Int32 → gU → Prop := fun r u => bo r ∧ u = (n, ad, S, h)
theorem GX1_isThing {p : Nat} : GM l0 yX1_isThing (.code yX1_isThing cX1_isThing 1 (some .boolean)) (mkR 0 0 0 0) Y ad n S h [.ref (ad p)] (gQi Y ad n S h (PB n ad S h)) := met_gi (by decide) (Nat.le_of_ble_eq_true rfl) (fun _ _ q => bo_n q.1) (fun X C E N K => by
  refine j_vl (lv' := []) ?_ trivial
  refine j_iconst (v := 0) C dX1_isThing_0 (by decide) ?_
  exact fj_xg1 (K _ _ 0 0 ⟨bo_0, rfl⟩ (Nat.zero_le _) (Nat.zero_le _) _ _ dX1_isThing_1))
theorem GX8_isThing {p : Nat} : GM l0 yX8_isThing (.code yX8_isThing cX8_isThing 1 (some .boolean)) (mkR 0 0 0 0) Y ad n S h [.ref (ad p)] (gQi Y ad n S h (PB n ad S h)) := met_gi (by decide) (Nat.le_of_ble_eq_true rfl) (fun _ _ q => bo_n q.1) (fun X C E N K => by
  refine j_vl (lv' := []) ?_ trivial
  refine j_iconst (v := 1) C dX8_isThing_0 (by decide) ?_
  exact fj_xg1 (K _ _ 0 0 ⟨bo_1, rfl⟩ (Nat.zero_le _) (Nat.zero_le _) _ _ dX8_isThing_1))
theorem GX9_isThing {p : Nat} : GM l0 yX9_isThing (.code yX9_isThing cX9_isThing 1 (some .boolean)) (mkR 0 0 0 0) Y ad n S h [.ref (ad p)] (gQi Y ad n S h (PB n ad S h)) := met_gi (by decide) (Nat.le_of_ble_eq_true rfl) (fun _ _ q => bo_n q.1) (fun X C E N K => by
  refine j_vl (lv' := []) ?_ trivial
  refine j_iconst (v := 1) C dX9_isThing_0 (by decide) ?_
  exact fj_xg1 (K _ _ 0 0 ⟨bo_1, rfl⟩ (Nat.zero_le _) (Nat.zero_le _) _ _ dX9_isThing_1))
theorem GX1_length {p : Nat} : GM l0 yX1_length (.code yX1_length cX1_length 1 (some .int)) (mkR 0 0 0 0) Y ad n S h [.ref (ad p)] (gQi Y ad n S h (PZ n ad S h)) := met_gi (by decide) (Nat.le_of_ble_eq_true rfl) (fun _ _ _ => rfl) (fun X C E N K => by
  refine j_vl (lv' := []) ?_ trivial
  refine j_iconst (v := 0) C dX1_length_0 (by decide) ?_
  exact fj_xg1 (K _ _ 0 0 rfl (Nat.zero_le _) (Nat.zero_le _) _ _ dX1_length_1))
theorem GX1_elementAt {p : Nat} {i : Int32} : GM l0 yX1_elementAt (.code yX1_elementAt cX1_elementAt 2 (some .int)) (mkR 0 0 0 0) Y ad n S h [.ref (ad p), .int i] (gQi Y ad n S h (PZ n ad S h)) := met_gi (by decide) (Nat.le_of_ble_eq_true rfl) (fun _ _ _ => rfl) (fun X C E N K => by
  refine j_vl (lv' := []) ?_ trivial
  refine j_iconst (v := 0) C dX1_elementAt_0 (by decide) ?_
  exact fj_xg1 (K _ _ 0 0 rfl (Nat.zero_le _) (Nat.zero_le _) _ _ dX1_elementAt_1))
theorem GX1_takesFrom {p q : Nat} : GM l0 yX1_takesFrom (.code yX1_takesFrom cX1_takesFrom 2 (some .boolean)) (mkR 0 0 0 0) Y ad n S h [.ref (ad p), .ref (ad q)] (gQi Y ad n S h (PB n ad S h)) := met_gi (by decide) (Nat.le_of_ble_eq_true rfl) (fun _ _ q => bo_n q.1) (fun X C E N K => by
  refine j_vl (lv' := []) ?_ trivial
  refine j_iconst (v := 0) C dX1_takesFrom_0 (by decide) ?_
  exact fj_xg1 (K _ _ 0 0 ⟨bo_0, rfl⟩ (Nat.zero_le _) (Nat.zero_le _) _ _ dX1_takesFrom_1))
theorem GX1_fill {p q : Nat} {i j m : Int32} : GM l0 yX1_fill (.code yX1_fill cX1_fill 5 none) (mkR 0 0 0 0) Y ad n S h [.ref (ad p), .int j, .ref (ad q), .int i, .int m] (gQv Y ad n S h (fun u => u = (n, ad, S, h))) := met_gv (by decide) (Nat.le_of_ble_eq_true rfl) (fun X C E N K => by
  refine j_vl (lv' := []) ?_ trivial
  exact fj_xg1 (K _ 0 0 rfl (Nat.zero_le _) (Nat.zero_le _) _ _ dX1_fill_0))
theorem GX1_heft {p ci nf : Nat} {rf : Nat → Option (Option Nat)} {Cn : String} {T : u_T} (hp : p < n) (hS : S p = .inr (.inl (ci, nf, rf))) (hcl : vwCl[ci]? = some (Cn, T, nf)) (hin : ∀ w ∈ u_ws Cn T nf, w ∈ TW) (h0 : 0 < nf) (hT : T 0 = ("ReplayBox$Held", "number", "I", true)) (hrf : rf 0 = none) : GM l0 yX1_heft (.code yX1_heft cX1_heft 1 (some .int)) (mkR 0 0 0 0) Y ad n S h [.ref (ad p)] (gQi Y ad n S h (PZ n ad S h)) := met_gi (by decide) (Nat.le_of_ble_eq_true rfl) (fun _ _ _ => rfl) (fun X C E N K => by
  refine j_vl (lv' := [(0, .ref (ad p))]) ?_ ⟨rfl, trivial⟩
  refine j_aload_n C dX1_heft_0 rfl rfl ?_
  refine j_get (j := 0) (ref := "ReplayBox$Held") (v := .int (h p 0)) C dX1_heft_1 hp hS hcl hin h0 (by rw [hT]; exact fl_RX1_7) (by rw [hT]) (by unfold ph_f; rw [hrf]) ?_
  refine j_iconst (v := 1) C dX1_heft_4 (by decide) ?_
  refine j_iadd C dX1_heft_5 ?_
  exact fj_xg1 (K _ _ 0 0 rfl (Nat.zero_le _) (Nat.zero_le _) _ _ dX1_heft_6))
theorem GX8_heft {p ci nf : Nat} {rf : Nat → Option (Option Nat)} {Cn : String} {T : u_T} (hp : p < n) (hS : S p = .inr (.inl (ci, nf, rf))) (hcl : vwCl[ci]? = some (Cn, T, nf)) (hin : ∀ w ∈ u_ws Cn T nf, w ∈ TW) (h0 : 0 < nf) (hT : T 0 = ("ReplayBox$Held", "number", "I", true)) (hrf : rf 0 = none) : GM l0 yX8_heft (.code yX8_heft cX8_heft 1 (some .int)) (mkR 1 0 0 20) Y ad n S h [.ref (ad p)] (gQi Y ad n S h (PZ n ad S h)) := met_gi (by decide) (Nat.le_of_ble_eq_true rfl) (fun _ _ _ => rfl) (fun X C E N K => by
  refine j_vl (lv' := [(0, .ref (ad p))]) ?_ ⟨rfl, trivial⟩
  refine j_aload_n C dX8_heft_0 rfl rfl ?_
  refine j_gi C (gr_SU (av := []) C E (GX1_heft hp hS hcl hin h0 hT hrf) dX8_heft_1 (CKX1_heft (by decide)) ⟨by decide, by decide⟩ lk_RX8_7 sm_X1_heft su_X8 in_X1_heft (by decide) hp hS hcl rfl (Nat.le_of_ble_eq_true rfl)) ?_
  rintro r u rfl
  refine fj_xg0 ?_
  refine j_bipush (v := 100) C dX8_heft_4 (by decide) ?_
  refine j_iadd C dX8_heft_6 ?_
  exact fj_xg1 (K _ _ 0 0 rfl (Nat.zero_le _) (Nat.zero_le _) _ _ dX8_heft_7))
theorem GX7_heft {p : Nat} (hp : p < n) (hS : S p = .inr (.inl (6, 1, rfN))) : GM l0 yX7_heft (.code yX7_heft cX7_heft 1 (some .int)) (mkR 2 0 0 40) Y ad n S h [.ref (ad p)] (gQi Y ad n S h (PZ n ad S h)) := met_gi (by decide) (Nat.le_of_ble_eq_true rfl) (fun _ _ _ => rfl) (fun X C E N K => by
  refine j_vl (lv' := [(0, .ref (ad p))]) ?_ ⟨rfl, trivial⟩
  refine j_iconst (v := 2) C dX7_heft_0 (by decide) ?_
  refine j_aload_n C dX7_heft_1 rfl rfl ?_
  refine j_gi C (gr_SU (av := []) C E (GX8_heft (T := TX7) hp hS rfl inX7 (by decide) rfl rfl) dX7_heft_2 (CKX8_heft (by decide)) ⟨by decide, by decide⟩ lk_RX7_7 sm_X8_heft su_X7 in_X8_heft (by decide) hp hS rfl rfl (Nat.le_of_ble_eq_true rfl)) ?_
  rintro r u rfl
  refine fj_xg0 ?_
  refine j_imul C dX7_heft_5 ?_
  exact fj_xg1 (K _ _ 0 0 rfl (Nat.zero_le _) (Nat.zero_le _) _ _ dX7_heft_6))
theorem GX9_heft {p : Nat} (hp : p < n) (hS : S p = .inr (.inl (8, 2, rfN))) : GM l0 yX9_heft (.code yX9_heft cX9_heft 1 (some .int)) (mkR 1 0 0 20) Y ad n S h [.ref (ad p)] (gQi Y ad n S h (PZ n ad S h)) := met_gi (by decide) (Nat.le_of_ble_eq_true rfl) (fun _ _ _ => rfl) (fun X C E N K => by
  refine j_vl (lv' := [(0, .ref (ad p))]) ?_ ⟨rfl, trivial⟩
  refine j_aload_n C dX9_heft_0 rfl rfl ?_
  refine j_gi C (gr_SU (av := []) C E (GX1_heft (T := TX9) hp hS rfl inX9 (by decide) rfl rfl) dX9_heft_1 (CKX1_heft (by decide)) ⟨by decide, by decide⟩ lk_RX9_13 sm_X1_heft su_X9 in_X1_heft (by decide) hp hS rfl rfl (Nat.le_of_ble_eq_true rfl)) ?_
  rintro r u rfl
  refine fj_xg0 ?_
  refine j_bipush (v := 10) C dX9_heft_4 (by decide) ?_
  refine j_aload_n C dX9_heft_6 rfl rfl ?_
  refine j_get (j := 1) (ref := "ReplayBox$ShelvedRow") (v := .int (h p 1)) C dX9_heft_7 hp hS rfl inX9 (by decide) fl_RX9_7 rfl rfl ?_
  refine j_imul C dX9_heft_10 ?_
  refine j_iadd C dX9_heft_11 ?_
  exact fj_xg1 (K _ _ 0 0 rfl (Nat.zero_le _) (Nat.zero_le _) _ _ dX9_heft_12))
theorem GX0_length {p q len : Nat} (hp : p < n) (hS : S p = .inr (.inl (0, 2, rfH q))) (hq : q < n) (hSq : S q = .inl (2, len)) : GM l0 yX0_length (.code yX0_length cX0_length 1 (some .int)) (mkR 0 0 0 0) Y ad n S h [.ref (ad p)] (gQi Y ad n S h (PZ n ad S h)) := met_gi (by decide) (Nat.le_of_ble_eq_true rfl) (fun _ _ _ => rfl) (fun X C E N K => by
  refine j_vl (lv' := [(0, .ref (ad p))]) ?_ ⟨rfl, trivial⟩
  refine j_aload_n C dX0_length_0 rfl rfl ?_
  refine j_get (j := 1) (ref := "ReplayBox$Bytes") (v := .ref (ad q)) C dX0_length_1 hp hS rfl inX0 (by decide) fl_RX0_7 rfl rfl ?_
  refine j_alen (v := Int32.ofNat len) (ty := .byte) C dX0_length_4 hq hSq rfl rfl ?_
  exact fj_xg1 (K _ _ 0 0 rfl (Nat.zero_le _) (Nat.zero_le _) _ _ dX0_length_5))
theorem GX0_elementAt {p q len : Nat} {i : Int32} (hp : p < n) (hS : S p = .inr (.inl (0, 2, rfH q))) (hq : q < n) (hSq : S q = .inl (2, len)) (hl : len ≤ 60) : GM l0 yX0_elementAt (.code yX0_elementAt cX0_elementAt 2 (some .int)) (mkR 0 0 0 0) Y ad n S h [.ref (ad p), .int i] (gQi Y ad n S h (PZ n ad S h)) := met_gi (by decide) (Nat.le_of_ble_eq_true rfl) (fun _ _ _ => rfl) (fun X C E N K => by
  refine j_vl (lv' := [(0, .ref (ad p)), (1, .int i)]) ?_ ⟨rfl, rfl, trivial⟩
  have z : ∀ lv, FJ X Y ad n S h 22 lv [] := fun lv => by
    refine j_iconst (v := 0) C dX0_elementAt_22 (by decide) ?_
    exact fj_xg1 (K _ _ 0 0 rfl (Nat.zero_le _) (Nat.zero_le _) _ _ dX0_elementAt_23)
  refine j_iload_n C dX0_elementAt_0 rfl rfl ?_
  refine j_if_lt (tgt := 22) C dX0_elementAt_1 (by decide) (fun _ => z _) (fun c0 => ?_)
  refine j_iload_n C dX0_elementAt_4 rfl rfl ?_
  refine j_aload_n C dX0_elementAt_5 rfl rfl ?_
  refine j_get (j := 1) (ref := "ReplayBox$Bytes") (v := .ref (ad q)) C dX0_elementAt_6 hp hS rfl inX0 (by decide) fl_RX0_7 rfl rfl ?_
  refine j_alen (v := Int32.ofNat len) (ty := .byte) C dX0_elementAt_9 hq hSq rfl rfl ?_
  refine j_icmp_ge (tgt := 22) C dX0_elementAt_10 (by decide) (fun _ => z _) (fun c1 => ?_)
  refine j_aload_n C dX0_elementAt_13 rfl rfl ?_
  refine j_get (j := 1) (ref := "ReplayBox$Bytes") (v := .ref (ad q)) C dX0_elementAt_14 hp hS rfl inX0 (by decide) fl_RX0_7 rfl rfl ?_
  refine j_iload_n C dX0_elementAt_17 rfl rfl ?_
  refine j_bald (k := q) C dX0_elementAt_18 hq hSq (in_of c0 c1 hl) rfl ?_
  refine j_goto (tgt := 23) C dX0_elementAt_19 (by decide) ?_
  exact fj_xg1 (K _ _ 0 0 rfl (Nat.zero_le _) (Nat.zero_le _) _ _ dX0_elementAt_23))
theorem GX2_length {p q len : Nat} (hp : p < n) (hS : S p = .inr (.inl (1, 2, rfH q))) (hq : q < n) (hSq : S q = .inl (0, len)) : GM l0 yX2_length (.code yX2_length cX2_length 1 (some .int)) (mkR 0 0 0 0) Y ad n S h [.ref (ad p)] (gQi Y ad n S h (PZ n ad S h)) := met_gi (by decide) (Nat.le_of_ble_eq_true rfl) (fun _ _ _ => rfl) (fun X C E N K => by
  refine j_vl (lv' := [(0, .ref (ad p))]) ?_ ⟨rfl, trivial⟩
  refine j_aload_n C dX2_length_0 rfl rfl ?_
  refine j_get (j := 1) (ref := "ReplayBox$Ints") (v := .ref (ad q)) C dX2_length_1 hp hS rfl inX2 (by decide) fl_RX2_7 rfl rfl ?_
  refine j_alen (v := Int32.ofNat len) (ty := .int) C dX2_length_4 hq hSq rfl rfl ?_
  exact fj_xg1 (K _ _ 0 0 rfl (Nat.zero_le _) (Nat.zero_le _) _ _ dX2_length_5))
theorem GX2_elementAt {p q len : Nat} {i : Int32} (hp : p < n) (hS : S p = .inr (.inl (1, 2, rfH q))) (hq : q < n) (hSq : S q = .inl (0, len)) (hl : len ≤ 60) : GM l0 yX2_elementAt (.code yX2_elementAt cX2_elementAt 2 (some .int)) (mkR 0 0 0 0) Y ad n S h [.ref (ad p), .int i] (gQi Y ad n S h (PZ n ad S h)) := met_gi (by decide) (Nat.le_of_ble_eq_true rfl) (fun _ _ _ => rfl) (fun X C E N K => by
  refine j_vl (lv' := [(0, .ref (ad p)), (1, .int i)]) ?_ ⟨rfl, rfl, trivial⟩
  have z : ∀ lv, FJ X Y ad n S h 22 lv [] := fun lv => by
    refine j_iconst (v := 0) C dX2_elementAt_22 (by decide) ?_
    exact fj_xg1 (K _ _ 0 0 rfl (Nat.zero_le _) (Nat.zero_le _) _ _ dX2_elementAt_23)
  refine j_iload_n C dX2_elementAt_0 rfl rfl ?_
  refine j_if_lt (tgt := 22) C dX2_elementAt_1 (by decide) (fun _ => z _) (fun c0 => ?_)
  refine j_iload_n C dX2_elementAt_4 rfl rfl ?_
  refine j_aload_n C dX2_elementAt_5 rfl rfl ?_
  refine j_get (j := 1) (ref := "ReplayBox$Ints") (v := .ref (ad q)) C dX2_elementAt_6 hp hS rfl inX2 (by decide) fl_RX2_7 rfl rfl ?_
  refine j_alen (v := Int32.ofNat len) (ty := .int) C dX2_elementAt_9 hq hSq rfl rfl ?_
  refine j_icmp_ge (tgt := 22) C dX2_elementAt_10 (by decide) (fun _ => z _) (fun c1 => ?_)
  refine j_aload_n C dX2_elementAt_13 rfl rfl ?_
  refine j_get (j := 1) (ref := "ReplayBox$Ints") (v := .ref (ad q)) C dX2_elementAt_14 hp hS rfl inX2 (by decide) fl_RX2_7 rfl rfl ?_
  refine j_iload_n C dX2_elementAt_17 rfl rfl ?_
  refine j_iald (k := q) C dX2_elementAt_18 hq hSq (in_of c0 c1 hl) rfl ?_
  refine j_goto (tgt := 23) C dX2_elementAt_19 (by decide) ?_
  exact fj_xg1 (K _ _ 0 0 rfl (Nat.zero_le _) (Nat.zero_le _) _ _ dX2_elementAt_23))
end HELD
