section MG_48_x70R2
/-! RACES: what the class finds -/
theorem later4 {g h G : ph_H} (f38 : iv 0 300 (g 0 38)) (e11 : h 35 11 = g 0 38) (C : ∀ m : Nat, m < (g 0 38).toNatClampNeg → (h 51 (m + 1)).toInt = cN G (Int32.ofNat (m + 1)) m) {i : Int32} (i1 : i.toInt < tN G (g 0 38).toNatClampNeg) : ∀ (q : Nat) (b t : Int32) (m : Nat), t.toInt = m + 1 → (m : Int) ≤ (g 0 38).toInt → (g 0 38).toInt - m < q → b.toInt = tN G m → b.toInt ≤ i.toInt → ∃ t' : Int32, ∃ m' : Nat, FX4_laterOf_4 q i b t h = t' ∧ t'.toInt = m' + 1 ∧ t'.toInt ≤ (g 0 38).toInt ∧ tN G m' ≤ i.toInt ∧ i.toInt < tN G (m' + 1)
  | 0, b, t, m, tm, mn, fq, bm, bi => by omega
  | q + 1, b, t, m, tm, mn, fq, bm, bi => by
    have k1 : (1 : Int32).toInt = 1 := by decide
    have n38 := iv_nat f38 rfl
    have f38' := f38
    unfold iv at f38'
    unfold FX4_laterOf_4
    rw [e11]
    by_cases d : g 0 38 < t
    · exfalso
      rw [Int32.lt_iff_toInt_lt] at d
      have : (g 0 38).toNatClampNeg = m := by omega
      rw [this] at i1
      omega
    · rw [if_neg d]
      rw [Int32.lt_iff_toInt_lt] at d
      obtain ⟨o1, o2⟩ := ofN_e tm (by omega)
      have c := C m (by omega)
      have tl := tN_le G m (by omega)
      have cl := cN_le G t m
      have ts := tN_s G tm (by omega)
      rw [o1] at c
      rw [o2]
      have e : (b + h 51 (m + 1)).toInt = tN G (m + 1) := by rw [ti_add (by omega) (by omega), bm, c, ts]; omega
      have t2 : (t + 1).toInt = (m + 1 : Nat) + 1 := by rw [ti_add (by omega) (by omega), k1]; omega
      by_cases w : b + h 51 (m + 1) ≤ i
      · rw [if_pos w]
        rw [Int32.le_iff_toInt_le] at w
        exact later4 f38 e11 C i1 q _ (t + 1) (m + 1) t2 (by omega) (by omega) e w
      · rw [if_neg w]
        rw [Int32.le_iff_toInt_le] at w
        exact ⟨t, m, rfl, tm, by omega, by omega, by omega⟩
theorem dec1 {x : Int32} (a : 0 ≤ x.toInt) (n : ¬ x = 0) : (x + -1).toInt = x.toInt - 1 ∧ 0 ≤ (x + -1).toInt := by
  have k0 : (0 : Int32).toInt = 0 := by decide
  have km : (-1 : Int32).toInt = -1 := by decide
  have xn : ¬ x.toInt = 0 := fun e => n (tI (by rw [e, k0]))
  have lt := Int32.toInt_lt x
  have ex : (x + -1).toInt = x.toInt - 1 := by rw [ti_add (by rw [km]; omega) (by rw [km]; omega), km]; rfl
  exact ⟨ex, by rw [ex]; omega⟩
theorem earl30 {h G : ph_H} {i t : Int32} (R : RQ h G t) {m : Nat} (tm : t.toInt = m + 1) (mb : m ≤ 300) (tn : t.toInt ≤ (G 0 38).toInt) (i1 : i.toInt < tN G m + cN G t m) : ∀ (q : Nat) (x s : Int32) (j : Nat), s.toInt = j + 1 → j ≤ m → m - j < q → x.toInt = i.toInt - tN G m - cN G t j → 0 ≤ x.toInt → isP G i (FX4_earlierOf_30 q t x s h) t
  | 0, x, s, j, sj, jm, fq, xj, x0 => by omega
  | q + 1, x, s, j, sj, jm, fq, xj, x0 => by
    have k1 : (1 : Int32).toInt = 1 := by decide
    have k0 : (0 : Int32).toInt = 0 := by decide
    have o2 := (ofN_e tm (by omega)).2
    have o3 := (ofN_e sj (by omega)).2
    have tl := tN_le G m mb
    have cl := cN_le G t m
    unfold FX4_earlierOf_30 FX4_earlierOf_56
    by_cases d : t ≤ s
    · exfalso
      rw [Int32.le_iff_toInt_le] at d
      have : j = m := by omega
      rw [this] at xj
      omega
    · rw [if_neg d]
      rw [Int32.le_iff_toInt_le] at d
      have e1 : (s + 1).toInt = (j + 1 : Nat) + 1 := by rw [ti_add (by omega) (by omega), k1]; omega
      have st := cN_s G t sj (by omega)
      have cl2 := cN_le G t j
      rcases R s (by omega) (by omega) with ⟨a, b⟩ | ⟨a, b, _⟩
      · rw [if_pos a]
        rw [if_pos b] at st
        exact earl30 R tm mb tn i1 q x (s + 1) (j + 1) e1 (by omega) (by omega) (by omega) x0
      · rw [if_neg (show ¬ FX4_isRace s t h = 0 by rw [a]; decide)]
        rw [if_neg b] at st
        by_cases w : x = 0
        · rw [if_pos w]
          rw [w, k0] at xj
          refine ⟨by omega, by omega, tn, b, ?_⟩
          rw [o2, o3]
          show i.toInt = tN G m + cN G t j
          omega
        · rw [if_neg w]
          have f1 : j + 1 ≤ m := by omega
          have f2 : m - (j + 1) < q := by omega
          have f3 : x.toInt - 1 = i.toInt - tN G m - cN G t (j + 1) := by omega
          obtain ⟨ex, e0⟩ := dec1 x0 w
          exact earl30 R tm mb tn i1 q (x + -1) (s + 1) (j + 1) e1 f1 f2 (ex.trans f3) e0
theorem earl5 {g h G : ph_H} (f38 : iv 0 300 (g 0 38)) (C : ∀ m : Nat, m < (g 0 38).toNatClampNeg → (h 51 (m + 1)).toInt = cN G (Int32.ofNat (m + 1)) m) {i t : Int32} {m : Nat} (tm : t.toInt = m + 1) (tn : t.toInt ≤ (g 0 38).toInt) (i0 : tN G m ≤ i.toInt) : ∀ (q : Nat) (x s : Int32) (j : Nat), s.toInt = j + 1 → j ≤ m → m - j < q → x.toInt = i.toInt - tN G j → ∃ x' : Int32, x'.toInt = i.toInt - tN G m ∧ FX4_earlierOf_5 q t x s h = FX4_earlierOf_30 2000 t x' 1 h
  | 0, x, s, j, sj, jm, fq, xj => by omega
  | q + 1, x, s, j, sj, jm, fq, xj => by
    have k1 : (1 : Int32).toInt = 1 := by decide
    have n38 := iv_nat f38 rfl
    have f38' := f38
    unfold iv at f38'
    unfold FX4_earlierOf_5
    by_cases d : t ≤ s
    · rw [if_pos d]
      rw [Int32.le_iff_toInt_le] at d
      have : j = m := by omega
      exact ⟨x, by rw [xj, this], rfl⟩
    · rw [if_neg d]
      rw [Int32.le_iff_toInt_le] at d
      have e1 : (s + 1).toInt = (j + 1 : Nat) + 1 := by rw [ti_add (by omega) (by omega), k1]; omega
      obtain ⟨o1, o2⟩ := ofN_e sj (by omega)
      have c := C j (by omega)
      rw [o1] at c
      rw [o2]
      have ts := tN_s G sj (by omega)
      have mo := tN_mo G (j + 1) (m - (j + 1))
      have y : j + 1 + (m - (j + 1)) = m := by omega
      rw [y] at mo
      have lt := Int32.toInt_lt i
      have ex : (x - h 51 (j + 1)).toInt = i.toInt - tN G (j + 1) := by rw [Int32.toInt_sub, bm_in (by omega) (by omega)]; omega
      exact earl5 f38 C tm tn i0 q _ (s + 1) (j + 1) e1 (by omega) (by omega) ex
theorem pair_c {g h G : ph_H} (f38 : iv 0 300 (g 0 38)) (e38 : G 0 38 = g 0 38) (e11 : h 35 11 = g 0 38) (R : ∀ t : Int32, t.toInt ≤ (g 0 38).toInt → RQ h G t) (C : ∀ m : Nat, m < (g 0 38).toNatClampNeg → (h 51 (m + 1)).toInt = cN G (Int32.ofNat (m + 1)) m) {i : Int32} (i0 : 0 ≤ i.toInt) (i1 : i.toInt < tN G (g 0 38).toNatClampNeg) : isP G i (FX4_earlierOf i (FX4_laterOf i h) h) (FX4_laterOf i h) := by
  have f38' := f38
  unfold iv at f38'
  obtain ⟨t, m, a, b, c, d, e⟩ := later4 f38 e11 C i1 2000 0 1 0 (by decide) (by omega) (by omega) (by rfl) (by show (0 : Int32).toInt ≤ _; exact i0)
  unfold FX4_earlierOf FX4_laterOf
  rw [a]
  obtain ⟨x, x1, x2⟩ := earl5 f38 C b c d 2000 i 1 0 (by decide) (by omega) (by omega) (by show _ = i.toInt - 0; omega)
  rw [x2]
  have ts := tN_s G b (by omega)
  exact earl30 (R t c) b (by omega) (by rw [e38]; exact c) (by omega) 2000 x 1 0 (by decide) (by omega) (by omega) (by rw [x1]; show _ = i.toInt - tN G m - 0; omega) (by omega)
end MG_48_x70R2
section MG_48_x71R3
/-! ORDER: what holds of it between two calls -/
def PO (g h : ph_H) : Prop := KN g h (g 0 38).toInt ∧ ∀ G, S4g g G → OLD g G ((g 0 38).toInt + 1) → (h 47 5).toInt = tN G (g 0 38).toNatClampNeg ∧ ∀ m : Nat, m < (g 0 38).toNatClampNeg → (h 51 (m + 1)).toInt = cN G (Int32.ofNat (m + 1)) m
def OR (h g : ph_H) : Prop := ¬ g 0 36 = 0 → (h 47 6 = 0 ∨ PO g h) ∧ (g 0 64 = 0 ∨ OLD g g ((g 0 38).toInt + 1))
theorem pVA_pVE (k i : Nat) (q : pVA k i = true) : pVE k i = true := by
  unfold pVA at q
  split at q
  all_goals first | rfl | exact q | (unfold pVE; simp only [Bool.or_eq_true, beq_iff_eq] at q ⊢; omega) | (exact absurd q (by decide))
theorem TC_fr {g g' : ph_H} (d : EQ pVA g g') : TCr g' = TCr g := by
  have S : SR4 g g' := ⟨fun i => d _ _ rfl, fun i => d _ _ rfl, fun i => d _ _ rfl, fun i => d _ _ rfl⟩
  have e38 : g' 0 38 = g 0 38 := d _ _ rfl
  have D : ∀ a b, Dr g' a b ↔ Dr g a b := fun a b => by
    unfold Dr
    rw [e38, dir_c S]
  funext u t
  apply propext
  unfold TCr
  constructor
  · intro w R r tr
    exact w R (fun a b x => r a b ((D a b).mp x)) tr
  · intro w R r tr
    exact w R (fun a b x => r a b ((D a b).mpr x)) tr
theorem PO_fr {g g' h h' : ph_H} (p : PO g h) (e : EQ pE h h') (d : EQ pVA g g') : PO g' h' := by
  have eT := TC_fr d
  have e38 : g' 0 38 = g 0 38 := d _ _ rfl
  have c29 : ∀ i, g' 29 i = g 29 i := fun i => d _ _ rfl
  have c32 : ∀ i, g' 32 i = g 32 i := fun i => d _ _ rfl
  have c33 : ∀ i, g' 33 i = g 33 i := fun i => d _ _ rfl
  have h48 : ∀ i, h' 48 i = h 48 i := fun i => e _ _ rfl
  have h51 : ∀ i, h' 51 i = h 51 i := fun i => e _ _ rfl
  have h47 : h' 47 5 = h 47 5 := e _ _ rfl
  obtain ⟨p1, p2⟩ := p
  refine ⟨?_, fun G S4 O => ?_⟩
  · intro t s a b c
    rw [h48, c29, eT]
    exact p1 t s a b (by rw [← e38]; exact c)
  · rw [e38, h47]
    rw [e38] at O
    obtain ⟨x, y⟩ := p2 G (fun k i q => by
      rcases q with q | q | q <;> rw [q]
      · rw [S4 29 i (Or.inl rfl), c29]
      · rw [S4 32 i (Or.inr (Or.inl rfl)), c32]
      · rw [S4 33 i (Or.inr (Or.inr rfl)), c33]) (fun u t a b c => by rw [← eT]; exact O u t a b c)
    exact ⟨x, fun m hm => by rw [h51]; exact y m hm⟩
theorem OR_fr {g g' h h' : ph_H} (p : OR h g) (e : EQ pE h h') (d : EQ pVE g g') : OR h' g' := by
  intro n
  have d' := EQ_sub pVA_pVE d
  have e36 : g' 0 36 = g 0 36 := d _ _ rfl
  have e38 : g' 0 38 = g 0 38 := d _ _ rfl
  have e64 : g' 0 64 = g 0 64 := d _ _ rfl
  have c39 : ∀ i, g' 39 i = g 39 i := fun i => d _ _ rfl
  have h47 : h' 47 6 = h 47 6 := e _ _ rfl
  obtain ⟨a, b⟩ := p (by rw [← e36]; exact n)
  refine ⟨a.elim (fun w => Or.inl (h47.trans w)) (fun w => Or.inr (PO_fr w e d')), b.elim (fun w => Or.inl (e64.trans w)) (fun w => Or.inr ?_)⟩
  rw [e38]
  intro u t u1 ut tn
  have m : M39 g' u t = M39 g u t := c39 _
  rw [m, TC_fr d']
  exact w u t u1 ut tn
theorem OR_run {h g : ph_H} : OR (FX11_run h).2 (FX12_run g).2 := by
  intro _
  refine ⟨Or.inl ?_, Or.inl ?_⟩
  · unfold FX11_run FX11_run_11 FX11_run_29
    generalize FX10_record_s _ = X
    unfold FX11_run_40 FX11_run_47 FX4_forget
    simp [hs_get]
  · unfold FX12_run FX12_run_14
    generalize FX12_begin _ = X
    have a := fr64_FX12_keep (h0 := hs (hs X 0 60 0) 0 64 0) 0 _ (EQ_r _)
    have b := fr64_FX12_run_29 _ a 0 64 rfl
    rw [b, hs_get, if_pos rfl, if_pos rfl]
/-- behind the preparing of both -/
def AFT (g H G : ph_H) : Prop := PO g H ∧ OLD g G ((g 0 38).toInt + 1) ∧ EQ pVA g G ∧ RRc g H ∧ RPl g H ∧ H 35 11 = g 0 38 ∧ MG g ∧ OR H G
theorem pre_both {z : zT} {h g : ph_H} (P : LR h g) (Q : OR h g) (J : IT z g) (n : ¬ g 0 36 = 0) : AFT g (FX4_prepare h) (FX12_findAhead (hs g 0 0 0)) := by
  obtain ⟨Q1, Q2⟩ := Q n
  have f38 : iv 0 300 (g 0 38) := steps_iv J
  have n38 := iv_nat f38 rfl
  have f38' := f38
  unfold iv at f38'
  obtain ⟨-, -, Gs, S, -⟩ := P.2.2.1 n
  have q := P.2.1.2 n
  have e11 : h 35 11 = g 0 38 := q.2.1
  have TR := q.2.2.2.2.2.2.2.2.1
  have sn : ∀ s : Int32, 1 ≤ s.toInt → (s.toNatClampNeg : Int) = s.toInt := fun s a => by
    rw [← Int32.toNat_toInt]
    omega
  have RR : RRc g h := fun s a b => by
    have T := TR s.toNatClampNeg (by have := sn s a; omega) (by rw [sn s a]; exact b)
    exact ⟨T.1, T.2.2.2.2.2.1, T.2.2.2.2.2.2.1⟩
  have RP : RPl g h := fun s a b => by
    have T := TR s.toNatClampNeg (by have := sn s a; omega) (by rw [sn s a]; exact b)
    exact ⟨T.2.2.2.1, T.2.2.2.2.1, T.2.2.2.2.2.2.2.2.1, T.2.2.2.2.2.2.2.2.2⟩
  have M := MG_of S f38
  have A : PO g (FX4_prepare h) ∧ (∀ k i, pRd k i → FX4_prepare h k i = h k i) := by
    by_cases c : h 47 6 = 0
    · obtain ⟨a, b⟩ := prepare_PI S f38 e11 RR RP (Or.inl c)
      refine ⟨⟨?_, a.2⟩, b⟩
      have := a.1.2.2.2.2
      rw [n38] at this
      exact this
    · unfold FX4_prepare
      rw [if_neg c]
      exact ⟨Q1.elim (fun w => absurd w c) id, fun _ _ _ => rfl⟩
  obtain ⟨A1', A2'⟩ := A
  have B : OLD g (FX12_findAhead (hs g 0 0 0)) ((g 0 38).toInt + 1) ∧ EQ pVA g (FX12_findAhead (hs g 0 0 0)) := by
    unfold FX12_findAhead
    have e64 : hs g 0 0 0 0 64 = g 0 64 := hs_o (by omega)
    rw [e64]
    by_cases c : g 0 64 = 0
    · rw [if_pos c]
      have k1 : (1 : Int32).toInt = 1 := by decide
      obtain ⟨a, b⟩ := fa15 f38 2000 1 (hs (hs g 0 0 0) 0 64 1) ⟨fun i => by rw [hs_o (by omega), hs_o (by omega)], fun i => by rw [hs_o (by omega), hs_o (by omega)], fun i => by rw [hs_o (by omega), hs_o (by omega)], fun i => by rw [hs_o (by omega), hs_o (by omega)]⟩ (by rw [hs_o (by omega), hs_o (by omega)]) (by rw [k1]; omega) (by rw [k1]; omega) (by rw [k1]; omega) (fun u t a b c => by rw [k1] at c; omega)
      refine ⟨b, fun k i w => ?_⟩
      have k39 : ¬ k = 39 := fun x => by rw [x] at w; exact absurd w (by simp [pVA])
      rw [a k i k39]
      have w0 : ¬ (k = 0 ∧ i = 64) := fun x => by rw [x.1, x.2] at w; exact absurd w (by decide)
      have w1 : ¬ (k = 0 ∧ i = 0) := fun x => by rw [x.1, x.2] at w; exact absurd w (by decide)
      rw [hs_o w0, hs_o w1]
    · rw [if_neg c]
      refine ⟨fun u t a b c' => ?_, EQ_s rfl (EQ_r g)⟩
      have m : M39 (hs g 0 0 0) u t = M39 g u t := hs_o (by omega)
      rw [m]
      exact (Q2.elim (fun w => absurd w c) id) u t a b c'
  obtain ⟨B1', B2'⟩ := B
  refine ⟨A1', B1', B2', RRc_fr RR A2', RPl_fr RP A2', (A2' 35 11 (by unfold pRd; omega)).trans e11, M, fun _ => ⟨Or.inr (PO_fr A1' (EQ_r _) B2'), Or.inr ?_⟩⟩
  have e38 : FX12_findAhead (hs g 0 0 0) 0 38 = g 0 38 := B2' _ _ rfl
  rw [e38]
  intro u t a b c
  rw [TC_fr B2']
  exact B1' u t a b c
theorem OR_00 {h g : ph_H} (P : OR h g) : OR h (hs g 0 0 0) := OR_fr P (EQ_r h) (EQ_s rfl (EQ_r g))
theorem ahead_two {z : zT} {h g : ph_H} (P : LR h g) (Q : OR h g) (J : IT z g) (a b : Int32) : (FX11_ahead a b h).1 = (FX12_ahead a b g).1 ∧ OR (FX11_ahead a b h).2 (FX12_ahead a b g).2 := by
  have k1 : (1 : Int32).toInt = 1 := by decide
  have Qz := OR_00 Q
  unfold FX11_ahead FX12_ahead
  rw [P.2.1.1]
  by_cases c : g 0 36 = 0
  · rw [if_pos c, if_pos c]
    exact ⟨rfl, Qz⟩
  · rw [if_neg c, if_neg c]
    have e11 := (P.2.1.2 c).2.1
    have f38 : iv 0 300 (g 0 38) := steps_iv J
    have f38' := f38
    unfold iv at f38'
    have AF := pre_both P Q J c
    generalize FX4_prepare h = H at AF ⊢
    generalize FX12_findAhead (hs g 0 0 0) = G at AF ⊢
    obtain ⟨A1', A2', A3', A4', A5', A6', A7', A8'⟩ := AF
    rw [e11]
    by_cases v : 1 ≤ a.toInt ∧ a.toInt < b.toInt ∧ b.toInt ≤ (g 0 38).toInt
    · obtain ⟨v1, v2, v3⟩ := v
      have eb : (b - 1).toInt = b.toInt - 1 := by rw [Int32.toInt_sub, k1, bm_in (by omega) (by omega)]
      rw [if_neg (show ¬ a < 1 by rw [Int32.lt_iff_toInt_lt, k1]; omega), if_neg (show ¬ b ≤ a by rw [Int32.le_iff_toInt_le]; omega), if_pos (show b ≤ g 0 38 by rw [Int32.le_iff_toInt_le]; exact v3)]
      rw [if_neg (show ¬ FX12_isIn b.toInt64 1 (g 0 38).toInt64 = 0 from fun w => isIn_iff.mp w (by rw [l1, Int32.toInt_toInt64]; omega)), if_neg (show ¬ FX12_isIn a.toInt64 1 (b - 1).toInt64 = 0 from fun w => isIn_iff.mp w (by rw [l1, Int32.toInt_toInt64]; omega))]
      have ah := ahead_eq f38 A7' A4' A1'.1 (Int.le_refl _) v1 v2 v3
      have om := A2' a b v1 v2 (by omega)
      unfold FX11_ahead_40 FX12_ahead_48
      rw [ix39 (s := a) (t := b) ⟨by omega, by omega⟩ ⟨by omega, by omega⟩]
      by_cases t : TCr g a b
      · have w1 : ¬ FX4_isAhead a b H = 0 := fun w => ah.mp w t
        have w2 : ¬ G 39 (301 * a.toNatClampNeg + b.toNatClampNeg) = 0 := om.mpr t
        rw [if_neg w1, if_neg w2]
        exact ⟨rfl, A8'⟩
      · have w2 : G 39 (301 * a.toNatClampNeg + b.toNatClampNeg) = 0 := Classical.byContradiction (fun w => t (om.mp w))
        rw [if_pos (ah.mpr t), if_pos w2]
        exact ⟨rfl, A8'⟩
    · have L : (if a < 1 then ((-1 : Int32), h) else if b ≤ a then (-1, h) else if b ≤ g 0 38 then FX11_ahead_40 a b H else (-1, h)) = (-1, h) := by
        by_cases d1 : a < 1
        · rw [if_pos d1]
        · rw [if_neg d1]
          by_cases d2 : b ≤ a
          · rw [if_pos d2]
          · rw [if_neg d2]
            by_cases d3 : b ≤ g 0 38
            · exfalso
              rw [Int32.lt_iff_toInt_lt, k1] at d1
              rw [Int32.le_iff_toInt_le] at d2 d3
              exact v ⟨by omega, by omega, d3⟩
            · rw [if_neg d3]
      rw [L]
      by_cases d1 : FX12_isIn b.toInt64 1 (g 0 38).toInt64 = 0
      · rw [if_pos d1]
        exact ⟨rfl, Qz⟩
      · rw [if_neg d1]
        by_cases d2 : FX12_isIn a.toInt64 1 (b - 1).toInt64 = 0
        · rw [if_pos d2]
          exact ⟨rfl, Qz⟩
        · exfalso
          have e1 : 1 ≤ b.toInt ∧ b.toInt ≤ (g 0 38).toInt := Classical.byContradiction (fun w => d1 (isIn_iff.mpr (by rw [l1, Int32.toInt_toInt64]; exact w)))
          have eb : (b - 1).toInt = b.toInt - 1 := by rw [Int32.toInt_sub, k1, bm_in (by omega) (by omega)]
          have e2 : 1 ≤ a.toInt ∧ a.toInt ≤ (b - 1).toInt := Classical.byContradiction (fun w => d2 (isIn_iff.mpr (by rw [l1, Int32.toInt_toInt64]; exact w)))
          exact v ⟨by omega, by omega, by omega⟩
end MG_48_x71R3
section MG_48_x72R4
/-! RACES: the same answer -/
theorem tN_1 (G : ph_H) : tN G 1 = 0 := rfl
theorem race_two {z : zT} {h g : ph_H} (P : LR h g) (Q : OR h g) (J : IT z g) (i k : Int32) : (FX11_race i k h).1 = (FX12_race i k g).1 ∧ OR (FX11_race i k h).2 (FX12_race i k g).2 := by
  have k0 : (0 : Int32).toInt = 0 := by decide
  have k1 : (1 : Int32).toInt = 1 := by decide
  have k2 : (2 : Int32).toInt = 2 := by decide
  have k3 : (3 : Int32).toInt = 3 := by decide
  have Qz := OR_00 Q
  unfold FX11_race FX12_race
  rw [P.2.1.1]
  by_cases c : g 0 36 = 0
  · rw [if_pos c, if_pos c]
    exact ⟨rfl, Qz⟩
  · rw [if_neg c, if_neg c]
    have f38 : iv 0 300 (g 0 38) := steps_iv J
    have n38 := iv_nat f38 rfl
    have f38' := f38
    unfold iv at f38'
    have AF := pre_both P Q J c
    generalize FX4_prepare h = H at AF ⊢
    generalize FX12_findAhead (hs g 0 0 0) = G at AF ⊢
    obtain ⟨A1', A2', A3', A4', A5', A6', A7', A8'⟩ := AF
    by_cases v : 0 ≤ k.toInt ∧ k.toInt ≤ 3
    · rw [if_neg (show ¬ k < 0 by rw [Int32.lt_iff_toInt_lt, k0]; omega), if_pos (show k ≤ 3 by rw [Int32.le_iff_toInt_le, k3]; exact v.2)]
      rw [if_neg (show ¬ FX12_isIn k.toInt64 0 3 = 0 from fun w => isIn_iff.mp w (by rw [l0, l3]; exact v))]
      have e38 : G 0 38 = g 0 38 := A3' _ _ rfl
      have S4 : S4g g G := fun k i q => by rcases q with q | q | q <;> (rw [q]; exact A3' _ _ rfl)
      obtain ⟨p5, p51⟩ := A1'.2 G S4 A2'
      have RQa : ∀ t : Int32, t.toInt ≤ (g 0 38).toInt → RQ H G t := fun t tn => RQ_of f38 A7' A4' A5' A1'.1 (Int.le_refl _) S4 A2' tn
      have fG : iv 0 300 (G 0 38) := by rw [e38]; exact f38
      unfold FX11_race_28 FX12_race_33
      by_cases kz : k = 0
      · rw [if_pos kz, kz]
        have T := rc38_0 (G := G) (x1 := i) fG 2000 0 2 1 (by decide) (by
          by_cases z : (g 0 38).toInt = 0
          · right
            rw [e38]
            have z' : (g 0 38).toNatClampNeg = 0 := by omega
            rw [z', z]
            exact ⟨rfl, rfl⟩
          · left
            rw [e38]
            omega) (by rw [e38]; omega) (by rw [tN_1, k0]; rfl)
        generalize FX12_race_38 2000 i 0 0 2 G = TR at T ⊢
        obtain ⟨r, R⟩ := TR
        obtain ⟨t1, t2⟩ := T
        have t2' : R = G := t2
        have t1' : r.toInt = tN G (G 0 38).toNatClampNeg := t1
        rw [t2']
        refine ⟨?_, A8'⟩
        show H 47 5 = r
        exact tI (by rw [t1', e38]; exact p5)
      · rw [if_neg kz]
        have kn : ¬ k.toInt = 0 := fun e => kz (tI (by rw [e, k0]))
        have T := rc38_k (G := G) (i := i) (k := k) ⟨by omega, v.2⟩ fG 2000 0 2 1 (by decide) (by rw [e38]; omega) (by rw [e38]; omega) (by rw [tN_1, k0]; rfl)
        by_cases b : 0 ≤ i.toInt ∧ i.toInt < tN G (g 0 38).toNatClampNeg
        · rw [if_neg (show ¬ i < 0 by rw [Int32.lt_iff_toInt_lt, k0]; omega), if_pos (show i < H 47 5 by rw [Int32.lt_iff_toInt_lt, p5]; exact b.2)]
          have pc := pair_c f38 e38 A6' RQa p51 b.1 b.2
          generalize FX4_earlierOf i (FX4_laterOf i H) H = s at pc ⊢
          generalize FX4_laterOf i H = t at pc ⊢
          rcases T with ⟨s', t', p, e⟩ | ⟨w, e⟩
          · obtain ⟨es, et⟩ := isP_u fG pc p
            rw [e, ← es, ← et]
            unfold selR
            by_cases q2 : k = 2
            · rw [if_pos q2, if_neg (show ¬ k = 1 by rw [q2]; decide), if_pos q2]
              exact ⟨rfl, A8'⟩
            · rw [if_neg q2, if_neg q2]
              by_cases q3 : k = 3
              · rw [if_pos q3, if_neg (show ¬ k = 1 by rw [q3]; decide)]
                rcases RQa t (by rw [← e38]; exact pc.2.2.1) s pc.1 pc.2.1 with ⟨_, x⟩ | ⟨_, _, x⟩
                · exact absurd x pc.2.2.2.1
                · exact ⟨x.symm, A8'⟩
              · rw [if_neg q3, if_pos (show k = 1 from tI (by
                  have : ¬ k.toInt = 2 := fun e => q2 (tI (by rw [e, k2]))
                  have : ¬ k.toInt = 3 := fun e => q3 (tI (by rw [e, k3]))
                  rw [k1]
                  omega))]
                exact ⟨rfl, A8'⟩
          · exact absurd pc (w s t (by have := pc.1; have := pc.2.1; rw [k2]; omega))
        · rcases T with ⟨s', t', p, e⟩ | ⟨w, e⟩
          · exfalso
            have := isP_in fG p
            rw [e38] at this
            exact b ⟨this.1, this.2.1⟩
          · rw [e]
            by_cases d1 : i < 0
            · rw [if_pos d1]
              exact ⟨rfl, A8'⟩
            · rw [if_neg d1]
              rw [Int32.lt_iff_toInt_lt, k0] at d1
              rw [if_neg (show ¬ i < H 47 5 by rw [Int32.lt_iff_toInt_lt, p5]; intro w; exact b ⟨by omega, w⟩)]
              exact ⟨rfl, A8'⟩
    · have L : (if k < 0 then ((-1 : Int32), h) else if k ≤ 3 then FX11_race_28 i k H else (-1, h)) = (-1, h) := by
        by_cases d1 : k < 0
        · rw [if_pos d1]
        · rw [if_neg d1]
          by_cases d2 : k ≤ 3
          · exfalso
            rw [Int32.lt_iff_toInt_lt, k0] at d1
            rw [Int32.le_iff_toInt_le, k3] at d2
            exact v ⟨by omega, d2⟩
          · rw [if_neg d2]
      rw [L, if_pos (show FX12_isIn k.toInt64 0 3 = 0 from isIn_iff.mpr (by rw [l0, l3]; exact v))]
      exact ⟨rfl, Qz⟩
end MG_48_x72R4
section MG_48_x73R5
/-! BOTH together -/
def LO (h g : ph_H) : Prop := LR h g ∧ OR h g
theorem pE_60 (k i : Nat) (q : 60 ≤ k) : pE k i = false := by
  unfold pE
  split <;> first | omega | rfl
theorem OR_low {h h' g : ph_H} (P : OR h g) (e : ∀ k, k < 60 → h' k = h k) : OR h' g := OR_fr P (EQ_low pE_60 e) (EQ_r g)
theorem OR_sb {h g : ph_H} (P : OR h g) (x : Int32) : OR (FX11_seenBehind x h) g := OR_fr P (frE_FX11_seenBehind _ h (EQ_r h)) (EQ_r g)
theorem OR_vH {h h' g : ph_H} (P : OR h g) (q : vH h h') : OR h' g := by
  rcases q with rfl | rfl
  · exact P
  · exact OR_sb P _
end MG_48_x73R5
