/-! what SHELVES hold, called through Held -/
theorem cl_RX11_350 : Cond.classLink RX11 350 "java/lang/UnsupportedOperationException" ∈ TW := (TWt 952 (by decide +kernel) (by decide +kernel))
theorem FC.room {X : fj_X} {Y : fj_Y} {l : Launch} {cc : ByteArray} {nL : Nat} {own : String} {rm : Room} {mc ms : Nat} {ret : Option FieldType} (C : FC X Y l cc nL own rm mc ms ret) : mc ≤ rm.cells ∧ ms ≤ rm.slots := by
  obtain ⟨⟨p, l, e, R⟩, ⟨s, m, args, below, meth, c⟩, ⟨cells, slots, Q⟩, ⟨nL', A⟩⟩ := X
  obtain ⟨G, cA⟩ := Y
  obtain ⟨hx, hb, hml, hown, hts, hK, hlk, hR, hce, hsl, hnl, hret, htr, hmc, hms, hA⟩ := C
  exact ⟨hmc, hms⟩
theorem ckq {rm rm2 : Room} {m : Nat} (hR : 3 ≤ rm.frames ∧ 60 ≤ rm.locals) (q : (decide (rm2.frames ≤ 2) && decide (8 + (m + 11) + rm2.locals ≤ 60)) = true) : rm2.frames + 1 ≤ rm.frames ∧ 8 + (m + 11) + rm2.locals ≤ rm.locals := by
  simp only [Bool.and_eq_true, decide_eq_true_eq] at q
  omega
/-- the class's numbers are kept, and byte rows hold bytes -/
def HR (n : Nat) (S : ph_S) (h h' : ph_H) : Prop := (∀ k, k < 60 → h' k = h k) ∧ (BY n S h → BY n S h')
theorem HR.rf {n : Nat} {S : ph_S} {h : ph_H} : HR n S h h := ⟨fun _ _ => rfl, id⟩
theorem hc_BY {n : Nat} {S : ph_S} {h : ph_H} {r q len : Nat} {sp dp m : Int32} (hr : 60 ≤ r ∧ r < n) (hSr : S r = .inl (2, len)) (b : BY n S h) : BY n S (hc h r q sp dp m) := by
  intro k l2 h1 h2 h3 i
  by_cases e : k = q
  · subst e
    rcases hc_i (h := h) (k0 := r) (k1 := k) (sp := sp) (dp := dp) (m := m) (i := i) with ⟨j, w⟩ | w
    · rw [w]
      exact b r len hr.1 hr.2 hSr j
    · rw [w]
      exact b k l2 h1 h2 h3 i
  · rw [hc_o e]
    exact b k l2 h1 h2 h3 i
theorem hc_BYi {n : Nat} {S : ph_S} {h : ph_H} {r q len : Nat} {sp dp m : Int32} (hSq : S q = .inl (0, len)) (b : BY n S h) : BY n S (hc h r q sp dp m) := by
  intro k l2 h1 h2 h3 i
  by_cases e : k = q
  · subst e
    rw [hSq] at h3
    cases h3
  · rw [hc_o e]
    exact b k l2 h1 h2 h3 i
theorem hc_lo {h : ph_H} {r q : Nat} {sp dp m : Int32} (hq : 60 ≤ q) : ∀ k, k < 60 → hc h r q sp dp m k = h k := fun k hk => by
  funext i
  exact hc_o (by omega)
section H2
variable {X : fj_X} {Y : fj_Y} {l0 : Launch} {cc : ByteArray} {nL : Nat} {rm : Room} {mc ms : Nat} {ret : Option FieldType} {ad : Nat → Nat} {n : Nat} {S : ph_S} {h : ph_H} {pc : Nat} {lv : List (Nat × Value)} {st : List Value} {pr : Nat}
theorem j_instX0 {q : Nat} (C : FC X Y l0 cc nL RX0 rm mc ms ret) (E : FE X) (o : HO n S q) (hd : decode cc pc = .ok (.instanceof 8, 3)) (kk1 : ∀ r len, S q = .inr (.inl (0, 2, rfH r)) → 60 ≤ r → r < n → S r = .inl (2, len) → len ≤ 60 → FJ X Y ad n S h (pc + 3) lv (.int 1 :: st)) (kk0 : FJ X Y ad n S h (pc + 3) lv (.int 0 :: st)) : FJ X Y ad n S h pc lv (.ref (ad q) :: st) := by
  obtain ⟨o1, o2, o3⟩ := o
  rcases o3 with ⟨r, len, a, b, c, d, e⟩ | ⟨r, len, a, b, c, d, e⟩ | a | a | a
  · exact j_inst (T := TX0) C hd cl_RX0_8 o2 a rfl (Or.inl ⟨rfl, rfl⟩) (kk1 r len a b c d e)
  · exact j_inst (T := TX2) C hd cl_RX0_8 o2 a rfl (Or.inr ⟨rfl, E, by decide +kernel⟩) kk0
  · exact j_inst (T := TX9) C hd cl_RX0_8 o2 a rfl (Or.inr ⟨rfl, E, by decide +kernel⟩) kk0
  · exact j_inst (T := TX8) C hd cl_RX0_8 o2 a rfl (Or.inr ⟨rfl, E, by decide +kernel⟩) kk0
  · exact j_inst (T := TX7) C hd cl_RX0_8 o2 a rfl (Or.inr ⟨rfl, E, by decide +kernel⟩) kk0
theorem GX0_takesFrom {p q : Nat} (o : HO n S q) : GM l0 yX0_takesFrom (.code yX0_takesFrom cX0_takesFrom 2 (some .boolean)) (mkR 0 0 0 0) Y ad n S h [.ref (ad p), .ref (ad q)] (gQi Y ad n S h (PB n ad S h)) := met_gi (by decide) (Nat.le_of_ble_eq_true rfl) (fun _ _ q => bo_n q.1) (fun X C E N K => by
  refine j_vl (lv' := [(1, .ref (ad q))]) ?_ ⟨rfl, trivial⟩
  refine j_aload_n C dX0_takesFrom_0 rfl rfl ?_
  refine j_instX0 C E o dX0_takesFrom_1 (fun _ _ _ _ _ _ _ => ?_) ?_
  · exact fj_xg1 (K _ _ 0 0 ⟨bo_1, rfl⟩ (Nat.zero_le _) (Nat.zero_le _) _ _ dX0_takesFrom_4)
  · exact fj_xg1 (K _ _ 0 0 ⟨bo_0, rfl⟩ (Nat.zero_le _) (Nat.zero_le _) _ _ dX0_takesFrom_4))
set_option maxRecDepth 100000 in
theorem GX0_fill {p q r0 len0 : Nat} {i j m : Int32} (W : WS pr n S) (hp : p < n) (hS : S p = .inr (.inl (0, 2, rfH q))) (hq0 : 60 ≤ q) (hq : q < n) (hSq : S q = .inl (2, len0)) (hl0 : len0 ≤ 60) (o : HO n S r0) (hb : BY n S h) : GM l0 yX0_fill (.code yX0_fill cX0_fill 6 none) (mkR 1 0 0 26) Y ad n S h [.ref (ad p), .int j, .ref (ad r0), .int i, .int m] (gQv Y ad n S h (fun u => ∃ h', u = (n, ad, S, h') ∧ HR n S h h')) := met_gv (by decide) (Nat.le_of_ble_eq_true rfl) (fun X C E N K => by
  refine j_vl (lv' := [(0, .ref (ad p)), (1, .int j), (2, .ref (ad r0)), (3, .int i), (4, .int m)]) ?_ ⟨rfl, rfl, rfl, rfl, rfl, trivial⟩
  have z : ∀ lv h', HR n S h h' → FJ X Y ad n S h' 58 lv [] := fun lv h' q => fj_xg1 (K _ 0 0 ⟨h', rfl, q⟩ (Nat.zero_le _) (Nat.zero_le _) _ _ dX0_fill_58)
  refine j_aload_n C dX0_fill_0 rfl rfl ?_
  refine j_instX0 C E o dX0_fill_1 (fun r len a hr1 hr2 hSr hl => ?_) (j_if_eq (tgt := 58) C dX0_fill_4 (by decide) (fun _ => z _ _ HR.rf) (fun c => absurd rfl c))
  refine j_if_eq (tgt := 58) C dX0_fill_4 (by decide) (fun c => absurd c (by decide)) (fun _ => ?_)
  refine j_aload_n C dX0_fill_7 rfl rfl ?_
  refine j_cast (T := TX0) C dX0_fill_8 cl_RX0_8 o.2.1 a rfl ?_
  refine j_astore C dX0_fill_11 (by decide) rfl ?_
  refine j_iload_n C dX0_fill_13 rfl rfl ?_
  refine j_iload C dX0_fill_14 rfl ?_
  refine j_aload C dX0_fill_16 rfl ?_
  refine j_get (j := 1) (ref := "ReplayBox$Bytes") (v := .ref (ad r)) C dX0_fill_18 o.2.1 a rfl inX0 (by decide) fl_RX0_7 rfl rfl ?_
  refine j_alen (v := Int32.ofNat len) (ty := .byte) C dX0_fill_21 hr2 hSr rfl rfl ?_
  refine j_callSN C E (MX11_fits W i m (Int32.ofNat len) h (SX11_fits _ _ _).1) dX0_fill_22 (CKX11_fits (by decide)) ⟨rfl, rfl⟩ (host := "ReplayBox") (by decide +kernel) st_X11_fits rfl (Nat.le_of_ble_eq_true rfl) ?_
  rintro r1 S' h' ⟨e1, e2, e3, -⟩
  subst e1 e2 e3
  refine j_if_eq (tgt := 58) C dX0_fill_25 (by decide) (fun _ => z _ _ HR.rf) (fun f1 => ?_)
  refine j_iload_n C dX0_fill_28 rfl rfl ?_
  refine j_iload C dX0_fill_29 rfl ?_
  refine j_aload_n C dX0_fill_31 rfl rfl ?_
  refine j_get (j := 1) (ref := "ReplayBox$Bytes") (v := .ref (ad q)) C dX0_fill_32 hp hS rfl inX0 (by decide) fl_RX0_7 rfl rfl ?_
  refine j_alen (v := Int32.ofNat len0) (ty := .byte) C dX0_fill_35 hq hSq rfl rfl ?_
  refine j_callSN C E (MX11_fits W j m (Int32.ofNat len0) h' (SX11_fits _ _ _).1) dX0_fill_36 (CKX11_fits (by decide)) ⟨rfl, rfl⟩ (host := "ReplayBox") (by decide +kernel) st_X11_fits rfl (Nat.le_of_ble_eq_true rfl) ?_
  rintro r2 S2 h2 ⟨e1, e2, e3, -⟩
  subst e1 e2 e3
  refine j_if_eq (tgt := 58) C dX0_fill_39 (by decide) (fun _ => z _ _ HR.rf) (fun f2 => ?_)
  refine j_aload C dX0_fill_42 rfl ?_
  refine j_get (j := 1) (ref := "ReplayBox$Bytes") (v := .ref (ad r)) C dX0_fill_44 o.2.1 a rfl inX0 (by decide) fl_RX0_7 rfl rfl ?_
  refine j_iload_n C dX0_fill_47 rfl rfl ?_
  refine j_aload_n C dX0_fill_48 rfl rfl ?_
  refine j_get (j := 1) (ref := "ReplayBox$Bytes") (v := .ref (ad q)) C dX0_fill_49 hp hS rfl inX0 (by decide) fl_RX0_7 rfl rfl ?_
  refine j_iload_n C dX0_fill_52 rfl rfl ?_
  refine j_iload C dX0_fill_53 rfl ?_
  refine j_copyB (k0 := r) (k1 := q) C dX0_fill_55 lk_RX0_19 ac_n ac_s ac_i hr2 hSr hq hSq (hb r len hr1 hr2 hSr) (fits_cp hl hl0 f1 f2) (by decide) (Nat.le_of_ble_eq_true rfl) ?_
  exact z _ _ ⟨hc_lo hq0, fun b => hc_BY ⟨hr1, hr2⟩ hSr b⟩)
theorem j_instX2 {q : Nat} (C : FC X Y l0 cc nL RX2 rm mc ms ret) (E : FE X) (o : HO n S q) (hd : decode cc pc = .ok (.instanceof 8, 3)) (kk1 : ∀ r len, S q = .inr (.inl (1, 2, rfH r)) → 60 ≤ r → r < n → S r = .inl (0, len) → len ≤ 60 → FJ X Y ad n S h (pc + 3) lv (.int 1 :: st)) (kk0 : FJ X Y ad n S h (pc + 3) lv (.int 0 :: st)) : FJ X Y ad n S h pc lv (.ref (ad q) :: st) := by
  obtain ⟨o1, o2, o3⟩ := o
  rcases o3 with ⟨r, len, a, b, c, d, e⟩ | ⟨r, len, a, b, c, d, e⟩ | a | a | a
  · exact j_inst (T := TX0) C hd cl_RX2_8 o2 a rfl (Or.inr ⟨rfl, E, by decide +kernel⟩) kk0
  · exact j_inst (T := TX2) C hd cl_RX2_8 o2 a rfl (Or.inl ⟨rfl, rfl⟩) (kk1 r len a b c d e)
  · exact j_inst (T := TX9) C hd cl_RX2_8 o2 a rfl (Or.inr ⟨rfl, E, by decide +kernel⟩) kk0
  · exact j_inst (T := TX8) C hd cl_RX2_8 o2 a rfl (Or.inr ⟨rfl, E, by decide +kernel⟩) kk0
  · exact j_inst (T := TX7) C hd cl_RX2_8 o2 a rfl (Or.inr ⟨rfl, E, by decide +kernel⟩) kk0
theorem GX2_takesFrom {p q : Nat} (o : HO n S q) : GM l0 yX2_takesFrom (.code yX2_takesFrom cX2_takesFrom 2 (some .boolean)) (mkR 0 0 0 0) Y ad n S h [.ref (ad p), .ref (ad q)] (gQi Y ad n S h (PB n ad S h)) := met_gi (by decide) (Nat.le_of_ble_eq_true rfl) (fun _ _ q => bo_n q.1) (fun X C E N K => by
  refine j_vl (lv' := [(1, .ref (ad q))]) ?_ ⟨rfl, trivial⟩
  refine j_aload_n C dX2_takesFrom_0 rfl rfl ?_
  refine j_instX2 C E o dX2_takesFrom_1 (fun _ _ _ _ _ _ _ => ?_) ?_
  · exact fj_xg1 (K _ _ 0 0 ⟨bo_1, rfl⟩ (Nat.zero_le _) (Nat.zero_le _) _ _ dX2_takesFrom_4)
  · exact fj_xg1 (K _ _ 0 0 ⟨bo_0, rfl⟩ (Nat.zero_le _) (Nat.zero_le _) _ _ dX2_takesFrom_4))
set_option maxRecDepth 100000 in
theorem GX2_fill {p q r0 len0 : Nat} {i j m : Int32} (W : WS pr n S) (hp : p < n) (hS : S p = .inr (.inl (1, 2, rfH q))) (hq0 : 60 ≤ q) (hq : q < n) (hSq : S q = .inl (0, len0)) (hl0 : len0 ≤ 60) (o : HO n S r0) (hb : BY n S h) : GM l0 yX2_fill (.code yX2_fill cX2_fill 6 none) (mkR 1 0 0 26) Y ad n S h [.ref (ad p), .int j, .ref (ad r0), .int i, .int m] (gQv Y ad n S h (fun u => ∃ h', u = (n, ad, S, h') ∧ HR n S h h')) := met_gv (by decide) (Nat.le_of_ble_eq_true rfl) (fun X C E N K => by
  refine j_vl (lv' := [(0, .ref (ad p)), (1, .int j), (2, .ref (ad r0)), (3, .int i), (4, .int m)]) ?_ ⟨rfl, rfl, rfl, rfl, rfl, trivial⟩
  have z : ∀ lv h', HR n S h h' → FJ X Y ad n S h' 58 lv [] := fun lv h' q => fj_xg1 (K _ 0 0 ⟨h', rfl, q⟩ (Nat.zero_le _) (Nat.zero_le _) _ _ dX2_fill_58)
  refine j_aload_n C dX2_fill_0 rfl rfl ?_
  refine j_instX2 C E o dX2_fill_1 (fun r len a hr1 hr2 hSr hl => ?_) (j_if_eq (tgt := 58) C dX2_fill_4 (by decide) (fun _ => z _ _ HR.rf) (fun c => absurd rfl c))
  refine j_if_eq (tgt := 58) C dX2_fill_4 (by decide) (fun c => absurd c (by decide)) (fun _ => ?_)
  refine j_aload_n C dX2_fill_7 rfl rfl ?_
  refine j_cast (T := TX2) C dX2_fill_8 cl_RX2_8 o.2.1 a rfl ?_
  refine j_astore C dX2_fill_11 (by decide) rfl ?_
  refine j_iload_n C dX2_fill_13 rfl rfl ?_
  refine j_iload C dX2_fill_14 rfl ?_
  refine j_aload C dX2_fill_16 rfl ?_
  refine j_get (j := 1) (ref := "ReplayBox$Ints") (v := .ref (ad r)) C dX2_fill_18 o.2.1 a rfl inX2 (by decide) fl_RX2_7 rfl rfl ?_
  refine j_alen (v := Int32.ofNat len) (ty := .int) C dX2_fill_21 hr2 hSr rfl rfl ?_
  refine j_callSN C E (MX11_fits W i m (Int32.ofNat len) h (SX11_fits _ _ _).1) dX2_fill_22 (CKX11_fits (by decide)) ⟨rfl, rfl⟩ (host := "ReplayBox") (by decide +kernel) st_X11_fits rfl (Nat.le_of_ble_eq_true rfl) ?_
  rintro r1 S' h' ⟨e1, e2, e3, -⟩
  subst e1 e2 e3
  refine j_if_eq (tgt := 58) C dX2_fill_25 (by decide) (fun _ => z _ _ HR.rf) (fun f1 => ?_)
  refine j_iload_n C dX2_fill_28 rfl rfl ?_
  refine j_iload C dX2_fill_29 rfl ?_
  refine j_aload_n C dX2_fill_31 rfl rfl ?_
  refine j_get (j := 1) (ref := "ReplayBox$Ints") (v := .ref (ad q)) C dX2_fill_32 hp hS rfl inX2 (by decide) fl_RX2_7 rfl rfl ?_
  refine j_alen (v := Int32.ofNat len0) (ty := .int) C dX2_fill_35 hq hSq rfl rfl ?_
  refine j_callSN C E (MX11_fits W j m (Int32.ofNat len0) h' (SX11_fits _ _ _).1) dX2_fill_36 (CKX11_fits (by decide)) ⟨rfl, rfl⟩ (host := "ReplayBox") (by decide +kernel) st_X11_fits rfl (Nat.le_of_ble_eq_true rfl) ?_
  rintro r2 S2 h2 ⟨e1, e2, e3, -⟩
  subst e1 e2 e3
  refine j_if_eq (tgt := 58) C dX2_fill_39 (by decide) (fun _ => z _ _ HR.rf) (fun f2 => ?_)
  refine j_aload C dX2_fill_42 rfl ?_
  refine j_get (j := 1) (ref := "ReplayBox$Ints") (v := .ref (ad r)) C dX2_fill_44 o.2.1 a rfl inX2 (by decide) fl_RX2_7 rfl rfl ?_
  refine j_iload_n C dX2_fill_47 rfl rfl ?_
  refine j_aload_n C dX2_fill_48 rfl rfl ?_
  refine j_get (j := 1) (ref := "ReplayBox$Ints") (v := .ref (ad q)) C dX2_fill_49 hp hS rfl inX2 (by decide) fl_RX2_7 rfl rfl ?_
  refine j_iload_n C dX2_fill_52 rfl rfl ?_
  refine j_iload C dX2_fill_53 rfl ?_
  refine j_copy (k0 := r) (k1 := q) C dX2_fill_55 lk_RX2_19 ac_n ac_s ac_i hr2 hSr hq hSq (fits_cp hl hl0 f1 f2) (by decide) (Nat.le_of_ble_eq_true rfl) ?_
  exact z _ _ ⟨hc_lo hq0, fun b => hc_BYi hSq b⟩)
theorem hv_length {p : Nat} (C : FC X Y l0 cc nL RX11 rm mc ms ret) (E : FE X) (o : HO n S p) (hd : decode cc pc = .ok (.invokevirtual 316, 3)) (hR : 3 ≤ rm.frames ∧ 60 ≤ rm.locals) (hroom : (st.map fun v => v.category).sum ≤ 8) (kk : ∀ r : Int32, FJ X Y ad n S h (pc + 3) lv (.int r :: st)) : FJ X Y ad n S h pc lv (.ref (ad p) :: st) := by
  obtain ⟨o1, o2, o3⟩ := o
  rcases o3 with ⟨r, len, a, b, c, d, e⟩ | ⟨r, len, a, b, c, d, e⟩ | a | a | a
  · exact j_gi C (gr_U (av := []) C E (GX0_length o2 a c d) hd (CKX0_length (ckq hR (by decide))) C.room cu_length_X0 o2 a rfl rfl hroom) (fun r u q => by
      obtain rfl := q
      exact fj_xg0 (kk r))
  · exact j_gi C (gr_U (av := []) C E (GX2_length o2 a c d) hd (CKX2_length (ckq hR (by decide))) C.room cu_length_X2 o2 a rfl rfl hroom) (fun r u q => by
      obtain rfl := q
      exact fj_xg0 (kk r))
  · exact j_gi C (gr_U (av := []) C E (GX1_length) hd (CKX1_length (ckq hR (by decide))) C.room cu_length_X9 o2 a rfl rfl hroom) (fun r u q => by
      obtain rfl := q
      exact fj_xg0 (kk r))
  · exact j_gi C (gr_U (av := []) C E (GX1_length) hd (CKX1_length (ckq hR (by decide))) C.room cu_length_X8 o2 a rfl rfl hroom) (fun r u q => by
      obtain rfl := q
      exact fj_xg0 (kk r))
  · exact j_gi C (gr_U (av := []) C E (GX1_length) hd (CKX1_length (ckq hR (by decide))) C.room cu_length_X7 o2 a rfl rfl hroom) (fun r u q => by
      obtain rfl := q
      exact fj_xg0 (kk r))
theorem hv_isThing {p : Nat} (C : FC X Y l0 cc nL RX11 rm mc ms ret) (E : FE X) (o : HO n S p) (hd : decode cc pc = .ok (.invokevirtual 336, 3)) (hR : 3 ≤ rm.frames ∧ 60 ≤ rm.locals) (hroom : (st.map fun v => v.category).sum ≤ 8) (kk : ∀ r : Int32, FJ X Y ad n S h (pc + 3) lv (.int r :: st)) : FJ X Y ad n S h pc lv (.ref (ad p) :: st) := by
  obtain ⟨o1, o2, o3⟩ := o
  rcases o3 with ⟨r, len, a, b, c, d, e⟩ | ⟨r, len, a, b, c, d, e⟩ | a | a | a
  · exact j_gi C (gr_U (av := []) C E (GX1_isThing) hd (CKX1_isThing (ckq hR (by decide))) C.room cu_isThing_X0 o2 a rfl rfl hroom) (fun r u q => by
      obtain ⟨-, rfl⟩ := q
      exact fj_xg0 (kk r))
  · exact j_gi C (gr_U (av := []) C E (GX1_isThing) hd (CKX1_isThing (ckq hR (by decide))) C.room cu_isThing_X2 o2 a rfl rfl hroom) (fun r u q => by
      obtain ⟨-, rfl⟩ := q
      exact fj_xg0 (kk r))
  · exact j_gi C (gr_U (av := []) C E (GX9_isThing) hd (CKX9_isThing (ckq hR (by decide))) C.room cu_isThing_X9 o2 a rfl rfl hroom) (fun r u q => by
      obtain ⟨-, rfl⟩ := q
      exact fj_xg0 (kk r))
  · exact j_gi C (gr_U (av := []) C E (GX8_isThing) hd (CKX8_isThing (ckq hR (by decide))) C.room cu_isThing_X8 o2 a rfl rfl hroom) (fun r u q => by
      obtain ⟨-, rfl⟩ := q
      exact fj_xg0 (kk r))
  · exact j_gi C (gr_U (av := []) C E (GX8_isThing) hd (CKX8_isThing (ckq hR (by decide))) C.room cu_isThing_X7 o2 a rfl rfl hroom) (fun r u q => by
      obtain ⟨-, rfl⟩ := q
      exact fj_xg0 (kk r))
theorem hv_heft {p : Nat} (C : FC X Y l0 cc nL RX11 rm mc ms ret) (E : FE X) (o : HO n S p) (hd : decode cc pc = .ok (.invokevirtual 340, 3)) (hR : 3 ≤ rm.frames ∧ 60 ≤ rm.locals) (hroom : (st.map fun v => v.category).sum ≤ 8) (kk : ∀ r : Int32, FJ X Y ad n S h (pc + 3) lv (.int r :: st)) : FJ X Y ad n S h pc lv (.ref (ad p) :: st) := by
  obtain ⟨o1, o2, o3⟩ := o
  rcases o3 with ⟨r, len, a, b, c, d, e⟩ | ⟨r, len, a, b, c, d, e⟩ | a | a | a
  · exact j_gi C (gr_U (av := []) C E (GX1_heft (T := TX0) o2 a rfl inX0 (by decide) rfl rfl) hd (CKX1_heft (ckq hR (by decide))) C.room cu_heft_X0 o2 a rfl rfl hroom) (fun r u q => by
      obtain rfl := q
      exact fj_xg0 (kk r))
  · exact j_gi C (gr_U (av := []) C E (GX1_heft (T := TX2) o2 a rfl inX2 (by decide) rfl rfl) hd (CKX1_heft (ckq hR (by decide))) C.room cu_heft_X2 o2 a rfl rfl hroom) (fun r u q => by
      obtain rfl := q
      exact fj_xg0 (kk r))
  · exact j_gi C (gr_U (av := []) C E (GX9_heft o2 a) hd (CKX9_heft (ckq hR (by decide))) C.room cu_heft_X9 o2 a rfl rfl hroom) (fun r u q => by
      obtain rfl := q
      exact fj_xg0 (kk r))
  · exact j_gi C (gr_U (av := []) C E (GX8_heft (T := TX8) o2 a rfl inX8 (by decide) rfl rfl) hd (CKX8_heft (ckq hR (by decide))) C.room cu_heft_X8 o2 a rfl rfl hroom) (fun r u q => by
      obtain rfl := q
      exact fj_xg0 (kk r))
  · exact j_gi C (gr_U (av := []) C E (GX7_heft o2 a) hd (CKX7_heft (ckq hR (by decide))) C.room cu_heft_X7 o2 a rfl rfl hroom) (fun r u q => by
      obtain rfl := q
      exact fj_xg0 (kk r))
theorem hv_elementAt {p : Nat} {i : Int32} (C : FC X Y l0 cc nL RX11 rm mc ms ret) (E : FE X) (o : HO n S p) (hd : decode cc pc = .ok (.invokevirtual 321, 3)) (hR : 3 ≤ rm.frames ∧ 60 ≤ rm.locals) (hroom : (st.map fun v => v.category).sum ≤ 8) (kk : ∀ r : Int32, FJ X Y ad n S h (pc + 3) lv (.int r :: st)) : FJ X Y ad n S h pc lv (.int i :: .ref (ad p) :: st) := by
  obtain ⟨o1, o2, o3⟩ := o
  rcases o3 with ⟨r, len, a, b, c, d, e⟩ | ⟨r, len, a, b, c, d, e⟩ | a | a | a
  · exact j_gi C (gr_U (av := [.int i]) C E (GX0_elementAt (i := i) o2 a c d e) hd (CKX0_elementAt (ckq hR (by decide))) C.room cu_elementAt_X0 o2 a rfl rfl hroom) (fun r u q => by
      obtain rfl := q
      exact fj_xg0 (kk r))
  · exact j_gi C (gr_U (av := [.int i]) C E (GX2_elementAt (i := i) o2 a c d e) hd (CKX2_elementAt (ckq hR (by decide))) C.room cu_elementAt_X2 o2 a rfl rfl hroom) (fun r u q => by
      obtain rfl := q
      exact fj_xg0 (kk r))
  · exact j_gi C (gr_U (av := [.int i]) C E (GX1_elementAt (i := i)) hd (CKX1_elementAt (ckq hR (by decide))) C.room cu_elementAt_X9 o2 a rfl rfl hroom) (fun r u q => by
      obtain rfl := q
      exact fj_xg0 (kk r))
  · exact j_gi C (gr_U (av := [.int i]) C E (GX1_elementAt (i := i)) hd (CKX1_elementAt (ckq hR (by decide))) C.room cu_elementAt_X8 o2 a rfl rfl hroom) (fun r u q => by
      obtain rfl := q
      exact fj_xg0 (kk r))
  · exact j_gi C (gr_U (av := [.int i]) C E (GX1_elementAt (i := i)) hd (CKX1_elementAt (ckq hR (by decide))) C.room cu_elementAt_X7 o2 a rfl rfl hroom) (fun r u q => by
      obtain rfl := q
      exact fj_xg0 (kk r))
theorem hv_takesFrom {p q : Nat} (C : FC X Y l0 cc nL RX11 rm mc ms ret) (E : FE X) (o : HO n S p) (w : HO n S q) (hd : decode cc pc = .ok (.invokevirtual 324, 3)) (hR : 3 ≤ rm.frames ∧ 60 ≤ rm.locals) (hroom : (st.map fun v => v.category).sum ≤ 8) (kk : ∀ r : Int32, FJ X Y ad n S h (pc + 3) lv (.int r :: st)) : FJ X Y ad n S h pc lv (.ref (ad q) :: .ref (ad p) :: st) := by
  obtain ⟨o1, o2, o3⟩ := o
  rcases o3 with ⟨r, len, a, b, c, d, e⟩ | ⟨r, len, a, b, c, d, e⟩ | a | a | a
  · exact j_gi C (gr_U (av := [.ref (ad q)]) C E (GX0_takesFrom (q := q) w) hd (CKX0_takesFrom (ckq hR (by decide))) C.room cu_takesFrom_X0 o2 a rfl rfl hroom) (fun r u q => by
      obtain ⟨-, rfl⟩ := q
      exact fj_xg0 (kk r))
  · exact j_gi C (gr_U (av := [.ref (ad q)]) C E (GX2_takesFrom (q := q) w) hd (CKX2_takesFrom (ckq hR (by decide))) C.room cu_takesFrom_X2 o2 a rfl rfl hroom) (fun r u q => by
      obtain ⟨-, rfl⟩ := q
      exact fj_xg0 (kk r))
  · exact j_gi C (gr_U (av := [.ref (ad q)]) C E (GX1_takesFrom (q := q)) hd (CKX1_takesFrom (ckq hR (by decide))) C.room cu_takesFrom_X9 o2 a rfl rfl hroom) (fun r u q => by
      obtain ⟨-, rfl⟩ := q
      exact fj_xg0 (kk r))
  · exact j_gi C (gr_U (av := [.ref (ad q)]) C E (GX1_takesFrom (q := q)) hd (CKX1_takesFrom (ckq hR (by decide))) C.room cu_takesFrom_X8 o2 a rfl rfl hroom) (fun r u q => by
      obtain ⟨-, rfl⟩ := q
      exact fj_xg0 (kk r))
  · exact j_gi C (gr_U (av := [.ref (ad q)]) C E (GX1_takesFrom (q := q)) hd (CKX1_takesFrom (ckq hR (by decide))) C.room cu_takesFrom_X7 o2 a rfl rfl hroom) (fun r u q => by
      obtain ⟨-, rfl⟩ := q
      exact fj_xg0 (kk r))
theorem hv_fill {p q : Nat} {i j m : Int32} (W : WS pr n S) (C : FC X Y l0 cc nL RX11 rm mc ms ret) (E : FE X) (o : HO n S p) (w : HO n S q) (hb : BY n S h) (hd : decode cc pc = .ok (.invokevirtual 332, 3)) (hR : 3 ≤ rm.frames ∧ 60 ≤ rm.locals) (hroom : (st.map fun v => v.category).sum ≤ 8) (kk : ∀ h', HR n S h h' → FJ X Y ad n S h' (pc + 3) lv st) : FJ X Y ad n S h pc lv (.int m :: .int i :: .ref (ad q) :: .int j :: .ref (ad p) :: st) := by
  obtain ⟨o1, o2, o3⟩ := o
  rcases o3 with ⟨r, len, a, b, c, d, e⟩ | ⟨r, len, a, b, c, d, e⟩ | a | a | a
  · exact j_gv C (gr_U (av := [.int j, .ref (ad q), .int i, .int m]) C E (GX0_fill W o2 a b c d e w hb) hd (CKX0_fill (ckq hR (by decide))) C.room cu_fill_X0 o2 a rfl rfl hroom) (fun u z => by
      obtain ⟨h', rfl, z⟩ := z
      exact fj_xg0 (kk h' z))
  · exact j_gv C (gr_U (av := [.int j, .ref (ad q), .int i, .int m]) C E (GX2_fill W o2 a b c d e w hb) hd (CKX2_fill (ckq hR (by decide))) C.room cu_fill_X2 o2 a rfl rfl hroom) (fun u z => by
      obtain ⟨h', rfl, z⟩ := z
      exact fj_xg0 (kk h' z))
  · exact j_gv C (gr_U (av := [.int j, .ref (ad q), .int i, .int m]) C E (GX1_fill (p := p) (q := q)) hd (CKX1_fill (ckq hR (by decide))) C.room cu_fill_X9 o2 a rfl rfl hroom) (fun u z => by
      obtain rfl := z
      exact fj_xg0 (kk h HR.rf))
  · exact j_gv C (gr_U (av := [.int j, .ref (ad q), .int i, .int m]) C E (GX1_fill (p := p) (q := q)) hd (CKX1_fill (ckq hR (by decide))) C.room cu_fill_X8 o2 a rfl rfl hroom) (fun u z => by
      obtain rfl := z
      exact fj_xg0 (kk h HR.rf))
  · exact j_gv C (gr_U (av := [.int j, .ref (ad q), .int i, .int m]) C E (GX1_fill (p := p) (q := q)) hd (CKX1_fill (ckq hR (by decide))) C.room cu_fill_X7 o2 a rfl rfl hroom) (fun u z => by
      obtain rfl := z
      exact fj_xg0 (kk h HR.rf))
end H2
section FL
variable {l0 : Launch} {Y : fj_Y} {ad : Nat → Nat} {n : Nat} {S : ph_S} {h : ph_H} {pr : Nat}
theorem GX1_fling {p : Nat} (htr : l0.stackTraces = false) : XM l0 yX1_fling (.code yX1_fling cX1_fling 1 none) (mkR 6 1 6 82) Y ad n S h [.ref (ad p)] (gQv Y ad n S h (fun _ => False)) (fun Ex u => Ex = "java/lang/UnsupportedOperationException" ∧ u = (n, ad, S, h)) := met_xt htr (by decide) (Nat.le_of_ble_eq_true rfl) (fun X C E T => fj_xg1 (T "java/lang/UnsupportedOperationException" (n, ad, S, h) 0 0 ⟨rfl, rfl⟩ (by decide) (by decide) (by decide) 0 _ [] (by decide) ⟨13, 15, 17, "it has no FAILURE", dX1_fling_0, dX1_fling_3, cl_RX1_13, iz_UnsupportedOperationException, thr_UO, by decide +kernel, by decide +kernel, Or.inl ⟨dX1_fling_4, dX1_fling_6, dX1_fling_9⟩⟩))
theorem GX8_fling {p : Nat} (htr : l0.stackTraces = false) : XM l0 yX8_fling (.code yX8_fling cX8_fling 1 none) (mkR 6 1 6 82) Y ad n S h [.ref (ad p)] (gQv Y ad n S h (fun _ => False)) (fun Ex u => Ex = "java/lang/IllegalStateException" ∧ u = (n, ad, S, h)) := met_xt htr (by decide) (Nat.le_of_ble_eq_true rfl) (fun X C E T => fj_xg1 (T "java/lang/IllegalStateException" (n, ad, S, h) 0 0 ⟨rfl, rfl⟩ (by decide) (by decide) (by decide) 0 _ [] (by decide) ⟨11, 13, 15, "the FAILURE of a LOCK", dX8_fling_0, dX8_fling_3, cl_RX8_11, iz_IllegalStateException, thr_LK, by decide +kernel, by decide +kernel, Or.inl ⟨dX8_fling_4, dX8_fling_6, dX8_fling_9⟩⟩))
theorem GX11_caughtFrom {p : Nat} (htr : l0.stackTraces = false) (o : HO n S p) : GM l0 yX11_caughtFrom (.codeWith yX11_caughtFrom cX11_caughtFrom 2 (some .int) [(0, 4, 7, 350), (0, 4, 11, 182)]) (mkR 7 1 6 102) Y ad n S h [.ref (ad p)] (gQi Y ad n S h (PZ n ad S h)) := met_giW (by decide) (Nat.le_of_ble_eq_true rfl) (fun _ _ _ => rfl) (fun X C E T K => by
  refine j_vl (lv' := [(0, .ref (ad p))]) ?_ ⟨rfl, trivial⟩
  have C' := C.g (a := 1) (b := 6) (by decide) (by decide)
  refine j_aload_n C dX11_caughtFrom_0 rfl rfl ?_
  have uo : ∀ q : Nat, FJ (xg X 1 6) Y ad n S h 7 [(0, .ref (ad p))] [.ref q] := fun q => by
    refine j_astore_n C' dX11_caughtFrom_7 rfl (by decide) rfl ?_
    refine j_bipush (v := (-15)) C' dX11_caughtFrom_8 (by decide) ?_
    exact K _ _ 1 6 rfl (by decide) (by decide) _ _ dX11_caughtFrom_10
  have cu : Catch [(0, 4, 7, 350), (0, 4, 11, 182)] RX11 1 "java/lang/UnsupportedOperationException" 7 := ⟨[], ⟨0, 4, 7, 350⟩, [⟨0, 4, 11, 182⟩], "java/lang/UnsupportedOperationException", rfl, fun z hz => absurd hz List.not_mem_nil, rfl, by decide, rfl, cl_RX11_350, by decide +kernel⟩
  have ci : Catch [(0, 4, 7, 350), (0, 4, 11, 182)] RX11 1 "java/lang/IllegalStateException" 11 := ⟨[⟨0, 4, 7, 350⟩], ⟨0, 4, 11, 182⟩, [], "java/lang/IllegalStateException", rfl, fun z hz => by
    rw [List.mem_singleton.mp hz]
    exact ⟨by decide, _, cl_RX11_350, by decide +kernel⟩, rfl, by decide, rfl, cl_RX11_182, by decide +kernel⟩
  obtain ⟨o1, o2, o3⟩ := o
  rcases o3 with ⟨r, len, a, b, c, d, e⟩ | ⟨r, len, a, b, c, d, e⟩ | a | a | a
  · refine j_xv C E T (xr_U (av := []) C E (GX1_fling htr) dX11_caughtFrom_1 (CKX1_fling (by decide)) ⟨by decide, by decide⟩ cu_fling_X0 o2 a rfl rfl (Nat.le_of_ble_eq_true rfl)) (fun Ex u q => ?_) (fun u q => q.elim)
    obtain ⟨rfl, rfl⟩ := q
    exact ⟨7, cu, uo⟩
  · refine j_xv C E T (xr_U (av := []) C E (GX1_fling htr) dX11_caughtFrom_1 (CKX1_fling (by decide)) ⟨by decide, by decide⟩ cu_fling_X2 o2 a rfl rfl (Nat.le_of_ble_eq_true rfl)) (fun Ex u q => ?_) (fun u q => q.elim)
    obtain ⟨rfl, rfl⟩ := q
    exact ⟨7, cu, uo⟩
  · refine j_xv C E T (xr_U (av := []) C E (GX1_fling htr) dX11_caughtFrom_1 (CKX1_fling (by decide)) ⟨by decide, by decide⟩ cu_fling_X9 o2 a rfl rfl (Nat.le_of_ble_eq_true rfl)) (fun Ex u q => ?_) (fun u q => q.elim)
    obtain ⟨rfl, rfl⟩ := q
    exact ⟨7, cu, uo⟩
  · refine j_xv C E T (xr_U (av := []) C E (GX8_fling htr) dX11_caughtFrom_1 (CKX8_fling (by decide)) ⟨by decide, by decide⟩ cu_fling_X8 o2 a rfl rfl (Nat.le_of_ble_eq_true rfl)) (fun Ex u q => ?_) (fun u q => q.elim)
    obtain ⟨rfl, rfl⟩ := q
    refine ⟨11, ci, fun q => ?_⟩
    refine j_astore_n C' dX11_caughtFrom_11 rfl (by decide) rfl ?_
    refine j_aload_n C' dX11_caughtFrom_12 rfl rfl ?_
    refine j_get (j := 0) (ref := "ReplayBox$Held") (v := .int (h p 0)) C' dX11_caughtFrom_13 o2 a rfl inX8 (by decide) fl_RX11_352 rfl rfl ?_
    exact K _ _ 1 6 rfl (by decide) (by decide) _ _ dX11_caughtFrom_16
  · refine j_xv C E T (xr_U (av := []) C E (GX8_fling htr) dX11_caughtFrom_1 (CKX8_fling (by decide)) ⟨by decide, by decide⟩ cu_fling_X7 o2 a rfl rfl (Nat.le_of_ble_eq_true rfl)) (fun Ex u q => ?_) (fun u q => q.elim)
    obtain ⟨rfl, rfl⟩ := q
    refine ⟨11, ci, fun q => ?_⟩
    refine j_astore_n C' dX11_caughtFrom_11 rfl (by decide) rfl ?_
    refine j_aload_n C' dX11_caughtFrom_12 rfl rfl ?_
    refine j_get (j := 0) (ref := "ReplayBox$Held") (v := .int (h p 0)) C' dX11_caughtFrom_13 o2 a rfl inX7 (by decide) fl_RX11_352 rfl rfl ?_
    exact K _ _ 1 6 rfl (by decide) (by decide) _ _ dX11_caughtFrom_16)
end FL
