/-! places of rows -/
theorem rp_ix {x i : Int32} (hx : iv 0 11 x) (hi : iv 0 15 i) : ((16 * x) + i).toNatClampNeg = 16 * x.toNatClampNeg + i.toNatClampNeg := by
  have k16 : (16 : Int32).toInt = 16 := by decide
  have n1 := iv_nat hx rfl
  have n2 := iv_nat hi rfl
  unfold iv at hx hi
  have em : (16 * x).toInt = 16 * x.toInt := by rw [ti_mul (by rw [k16]; omega) (by rw [k16]; omega), k16]
  have ea : (16 * x + i).toInt = 16 * x.toInt + i.toInt := by rw [ti_add (by omega) (by omega), em]
  have : ((16 * x + i).toNatClampNeg : Int) = 16 * x.toInt + i.toInt := by
    rw [← Int32.toNat_toInt]
    omega
  omega
theorem pl_row {x i : Int32} (hx : iv 0 11 x) (hi : iv 0 15 i) : 0 ≤ ((100 + (20 * x)) + i).toInt := by
  have a : iv 0 220 (20 * x) := iv_mul (c := 20) rfl hx rfl
  have b : iv 100 320 (100 + (20 * x)) := iv_add (iv_lit (lo := 100) (hi := 100) (x := 100) rfl) a rfl
  have c : iv 100 335 ((100 + (20 * x)) + i) := iv_add b hi rfl
  unfold iv at c
  omega
/-- has a ROW such a place -/
theorem rowp_eq {z : zT} {h g : ph_H} {b : Nat} {v : Int32} (R : RC h g) (I : IM z g) (hb : b < 28) (k : g 10 b = 1) : (FX3_hasRowPlace_s (g 11 b) v h = 0) = (FX12_isIn v.toInt64 0 ((g 18 (g 11 b).toNatClampNeg - 1).toInt64) = 0) := by
  have k0 : ¬ g 10 b = 0 := fun w => absurd (w.symm.trans k) (by decide)
  obtain ⟨a1, a2, a3⟩ := refs R hb k0
  have s16 : iv 0 16 (g 18 (g 11 b).toNatClampNeg) := IMv I 18 _
  obtain ⟨t1, t2⟩ := R.2.2.2.1
  obtain ⟨u1, u2, u3, u4⟩ := t2 _ a2
  have h0 : (0 : Int32).toInt = 0 := by decide
  apply propext
  rw [rowp_iff s16]
  unfold FX3_hasRowPlace_s
  have c1 := nn_t (x := g 11 b) (by omega)
  have c2 : ¬ g 0 18 ≤ g 11 b := by rw [Int32.le_iff_toInt_le]; omega
  simp (decide := true) only [t1, u1, u2, a3, k, c1, c2, ↓reduceIte]
  by_cases d : v < 0
  · rw [if_pos d]
    rw [Int32.lt_iff_toInt_lt] at d
    exact ⟨fun _ => by omega, fun _ => rfl⟩
  · rw [if_neg d]
    have d1 := nlt d
    rw [Int32.le_iff_toInt_le] at d1
    by_cases e : g 18 (g 11 b).toNatClampNeg ≤ v
    · rw [if_pos e]
      rw [Int32.le_iff_toInt_le] at e
      exact ⟨fun _ => by omega, fun _ => rfl⟩
    · rw [if_neg e]
      rw [Int32.le_iff_toInt_le] at e
      exact ⟨fun w => absurd w (by decide), fun w => by omega⟩
theorem rowp_in {z : zT} {g : ph_H} {v : Int32} {x : Nat} (I : IM z g) (e : ¬ FX12_isIn v.toInt64 0 ((g 18 x - 1).toInt64) = 0) : iv 0 15 v ∧ (v.toNatClampNeg : Int) < (g 18 x).toInt := by
  have s16 : iv 0 16 (g 18 x) := IMv I 18 _
  rw [rowp_iff s16] at e
  have e2 : 0 ≤ v.toInt ∧ v.toInt < (g 18 x).toInt := Classical.byContradiction fun w => e w
  unfold iv at *
  refine ⟨by omega, ?_⟩
  rw [← Int32.toNat_toInt]
  omega
theorem op_9 {z : zT} {h g : ph_H} {t : Int32} (R : RC h g) (I : IM z g) (ht : iv 0 3 t) (S : S0c t h g) (e18 : h 18 t.toNatClampNeg = g 12 t.toNatClampNeg) {i : Int32} (q0 : h 10 (FX5_firstPart_t t (h 18 t.toNatClampNeg) h).toNatClampNeg = g 2 i.toNatClampNeg) (q1 : h 10 ((FX5_firstPart_t t (h 18 t.toNatClampNeg) h) + 1).toNatClampNeg = g 3 i.toNatClampNeg) (q2 : h 10 ((FX5_firstPart_t t (h 18 t.toNatClampNeg) h) + 2).toNatClampNeg = g 4 i.toNatClampNeg) (q3 : h 10 ((FX5_firstPart_t t (h 18 t.toNatClampNeg) h) + 3).toNatClampNeg = g 5 i.toNatClampNeg) (o : g 2 i.toNatClampNeg = 9) : SIM t (FX3_perform_s t h) (FX12_instruct t i g) := by
  rw [pf_9 (q0.trans o) q1 q2 q3, slot_eq t _ g, slot_eq t _ g, slot_eq t _ g]
  unfold FX3_readRow_s FX3_hold_s
  obtain ⟨b1, b2⟩ := R.1 _ (sl_lt (a := g 4 i.toNatClampNeg) (g := g) ht)
  obtain ⟨d1, d2⟩ := R.1 _ (sl_lt (a := g 5 i.toNatClampNeg) (g := g) ht)
  rw [b1, b2, d1, d2]
  by_cases c1 : g 10 (FX12_local t (g 4 i.toNatClampNeg) g).toNatClampNeg = 1
  · by_cases c2 : g 10 (FX12_local t (g 5 i.toNatClampNeg) g).toNatClampNeg = 0
    · have pe := rowp_eq (v := g 11 (FX12_local t (g 5 i.toNatClampNeg) g).toNatClampNeg) R I (sl_lt (a := g 4 i.toNatClampNeg) (g := g) ht) c1
      rw [if_pos c1, if_pos c2]
      by_cases c3 : FX12_isIn (g 11 (FX12_local t (g 5 i.toNatClampNeg) g).toNatClampNeg).toInt64 0 ((g 18 (g 11 (FX12_local t (g 4 i.toNatClampNeg) g).toNatClampNeg).toNatClampNeg) - 1).toInt64 = 0
      · rw [if_pos (pe.mpr c3), ins_f (w := 4) (by rw [o]; decide) (by rw [o]; unfold FX12_why; simp (decide := true) only [c1, c2, c3, ↓reduceIte]) (by decide)]
        exact fin_fail R S (by decide) (by decide)
      · rw [if_neg (fun w => c3 (pe.mp w)), ins_9 o c1 c2 c3]
        obtain ⟨v1, v2⟩ := rowp_in I c3
        obtain ⟨a1, a2, a3⟩ := refs R (sl_lt (a := g 4 i.toNatClampNeg) (g := g) ht) (fun w => absurd (w.symm.trans c1) (by decide))
        have tn := th_nn I
        have xi : iv 0 11 (g 11 (FX12_local t (g 4 i.toNatClampNeg) g).toNatClampNeg) := ⟨by omega, by omega⟩
        have rw1 := (R.2.2.2.1.2 _ a2).2.2.2 _ v2
        rw [Int32.mul_comm (g 11 (FX12_local t (g 4 i.toNatClampNeg) g).toNatClampNeg) 16, Int32.mul_comm (g 11 (FX12_local t (g 4 i.toNatClampNeg) g).toNatClampNeg) 20, rp_ix xi v1, rw1]
        obtain ⟨s1, s2, s3, s4, s5, s6, s7⟩ := S
        refine fin_go (((R.rs (i := 25) (v := 0) rfl).cs (by decide)).rs rfl |>.slot (Or.inl rfl)) ?_ (by simp [hs_get]) (by
          refine ⟨Or.inr ?_, Or.inl ?_⟩
          · rw [hs_o (by simp), hs_o (by simp), hs_self]
            exact pl_row xi v1
          · rw [hs_o (by simp), hs_o (by simp), hs_o (by simp), hs_o (by simp)]
            exact s6) ?_
        · simp [EF, hs_get, s2, s3, s4, s5, s6, s7]
        · simp [hs_get, s1, e18]
    · rw [if_pos c1, if_neg c2, ins_f (w := 1) (by rw [o]; decide) (by rw [o]; unfold FX12_why FX12_why_196; simp (decide := true) only [c1, c2, ↓reduceIte]) (by decide)]
      exact fin_fail R S (by decide) (by decide)
  · rw [if_neg c1, ins_f (w := 1) (by rw [o]; decide) (by rw [o]; unfold FX12_why FX12_why_196; simp (decide := true) only [c1, ↓reduceIte]) (by decide)]
    exact fin_fail R S (by decide) (by decide)
theorem op_10 {z : zT} {h g : ph_H} {t : Int32} (R : RC h g) (I : IM z g) (ht : iv 0 3 t) (S : S0c t h g) (e18 : h 18 t.toNatClampNeg = g 12 t.toNatClampNeg) {i : Int32} (q0 : h 10 (FX5_firstPart_t t (h 18 t.toNatClampNeg) h).toNatClampNeg = g 2 i.toNatClampNeg) (q1 : h 10 ((FX5_firstPart_t t (h 18 t.toNatClampNeg) h) + 1).toNatClampNeg = g 3 i.toNatClampNeg) (q2 : h 10 ((FX5_firstPart_t t (h 18 t.toNatClampNeg) h) + 2).toNatClampNeg = g 4 i.toNatClampNeg) (q3 : h 10 ((FX5_firstPart_t t (h 18 t.toNatClampNeg) h) + 3).toNatClampNeg = g 5 i.toNatClampNeg) (o : g 2 i.toNatClampNeg = 10) : SIM t (FX3_perform_s t h) (FX12_instruct t i g) := by
  rw [pf_10 (q0.trans o) q1 q2 q3, slot_eq t _ g, slot_eq t _ g, slot_eq t _ g]
  unfold FX3_writeRow_s FX3_bothNumbers_s
  obtain ⟨a1, a2⟩ := R.1 _ (sl_lt (a := g 3 i.toNatClampNeg) (g := g) ht)
  obtain ⟨b1, b2⟩ := R.1 _ (sl_lt (a := g 4 i.toNatClampNeg) (g := g) ht)
  obtain ⟨d1, d2⟩ := R.1 _ (sl_lt (a := g 5 i.toNatClampNeg) (g := g) ht)
  rw [a1, a2, b1, b2, d1, d2]
  by_cases c1 : g 10 (FX12_local t (g 3 i.toNatClampNeg) g).toNatClampNeg = 1
  · by_cases c2 : g 10 (FX12_local t (g 4 i.toNatClampNeg) g).toNatClampNeg = 0
    · by_cases c3 : g 10 (FX12_local t (g 5 i.toNatClampNeg) g).toNatClampNeg = 0
      · have pe := rowp_eq (v := g 11 (FX12_local t (g 4 i.toNatClampNeg) g).toNatClampNeg) R I (sl_lt (a := g 3 i.toNatClampNeg) (g := g) ht) c1
        simp (decide := true) only [c1, c2, c3, ↓reduceIte]
        by_cases c4 : FX12_isIn (g 11 (FX12_local t (g 4 i.toNatClampNeg) g).toNatClampNeg).toInt64 0 ((g 18 (g 11 (FX12_local t (g 3 i.toNatClampNeg) g).toNatClampNeg).toNatClampNeg) - 1).toInt64 = 0
        · rw [if_pos (pe.mpr c4), ins_f (w := 4) (by rw [o]; decide) (by rw [o]; unfold FX12_why; simp (decide := true) only [c1, c2, c3, c4, ↓reduceIte]) (by decide)]
          exact fin_fail R S (by decide) (by decide)
        · rw [if_neg (fun w => c4 (pe.mp w)), ins_10 o c1 c2 c3 c4]
          rw [Int32.mul_comm (g 11 (FX12_local t (g 3 i.toNatClampNeg) g).toNatClampNeg) 16, Int32.mul_comm (g 11 (FX12_local t (g 3 i.toNatClampNeg) g).toNatClampNeg) 20]
          obtain ⟨s1, s2, s3, s4, s5, s6, s7⟩ := S
          refine fin_go (((R.rs (i := 25) (v := 0) rfl).cs (by decide)).rs rfl |>.row) ?_ (by simp [hs_get]) (by
            obtain ⟨v1, v2⟩ := rowp_in I c4
            obtain ⟨r1, r2, r3⟩ := refs R (sl_lt (a := g 3 i.toNatClampNeg) (g := g) ht) (fun w => absurd (w.symm.trans c1) (by decide))
            have tn := th_nn I
            have xi : iv 0 11 (g 11 (FX12_local t (g 3 i.toNatClampNeg) g).toNatClampNeg) := ⟨by omega, by omega⟩
            refine ⟨Or.inl ?_, Or.inr ?_⟩
            · rw [hs_o (by simp), hs_o (by simp), hs_o (by simp)]
              exact s5
            · rw [hs_o (by simp), hs_self]
              exact pl_row xi v1) ?_
          · simp [EF, hs_get, s2, s3, s4, s5, s6, s7]
          · simp [hs_get, s1, e18]
      · simp (decide := true) only [c1, c2, c3, ↓reduceIte]
        rw [ins_f (w := 1) (by rw [o]; decide) (by rw [o]; unfold FX12_why FX12_why_266; simp (decide := true) only [c1, c2, c3, ↓reduceIte]) (by decide)]
        exact fin_fail R S (by decide) (by decide)
    · simp (decide := true) only [c1, c2, ↓reduceIte]
      rw [ins_f (w := 1) (by rw [o]; decide) (by rw [o]; unfold FX12_why FX12_why_266; simp (decide := true) only [c1, c2, ↓reduceIte]) (by decide)]
      exact fin_fail R S (by decide) (by decide)
  · simp (decide := true) only [c1, ↓reduceIte]
    rw [ins_f (w := 1) (by rw [o]; decide) (by rw [o]; unfold FX12_why FX12_why_266; simp (decide := true) only [c1, ↓reduceIte]) (by decide)]
    exact fin_fail R S (by decide) (by decide)
/-! new THINGS -/
theorem mr44 : ∀ (q : Nat) (x1 x3 x4 : Int32) (h : ph_H), iv 0 11 (h 15 10) → iv 0 16 x3 → 0 ≤ x4.toInt → x4.toInt ≤ x3.toInt → x3.toInt - x4.toInt < (q : Int) → ∃ h', FX3_makeRow_s_44 q x1 x3 x4 h = FX3_makeThing_s x1 1 x3 h' ∧ (∀ p i, ¬ p = 24 → h' p i = h p i) ∧ (∀ j : Nat, x4.toInt ≤ j → (j : Int) < x3.toInt → h' 24 (16 * (h 15 10).toNatClampNeg + j) = 0) ∧ (∀ i : Nat, (i : Int) < 16 * (h 15 10).toInt + x4.toInt → h' 24 i = h 24 i)
  | 0, x1, x3, x4, h, f3, f4, m0, m1, m => by omega
  | q + 1, x1, x3, x4, h, f3, f4, m0, m1, m => by
    have k1 : (1 : Int32).toInt = 1 := by decide
    have k16 : (16 : Int32).toInt = 16 := by decide
    have n3 := iv_nat f3 rfl
    have f3' := f3
    unfold iv at f3 f4
    unfold FX3_makeRow_s_44
    by_cases c : x3 ≤ x4
    · rw [if_pos c]
      rw [Int32.le_iff_toInt_le] at c
      exact ⟨h, rfl, fun _ _ _ => rfl, fun j a b => by omega, fun _ _ => rfl⟩
    · rw [if_neg c]
      rw [Int32.le_iff_toInt_le] at c
      have e4 : (x4 + 1).toInt = x4.toInt + 1 := by rw [ti_add (by omega) (by omega), k1]
      have em : (h 15 10 * 16).toInt = 16 * (h 15 10).toInt := by rw [ti_mul (by rw [k16]; omega) (by rw [k16]; omega), k16]; omega
      have ea : (h 15 10 * 16 + x4).toInt = 16 * (h 15 10).toInt + x4.toInt := by rw [ti_add (by omega) (by omega), em]
      have ix : ((h 15 10 * 16 + x4).toNatClampNeg : Int) = 16 * (h 15 10).toInt + x4.toInt := by
        rw [← Int32.toNat_toInt]
        omega
      have hk : hs h 24 (h 15 10 * 16 + x4).toNatClampNeg 0 15 10 = h 15 10 := hs_o (by simp)
      obtain ⟨h', a1, a2, a3, a4⟩ := mr44 q x1 x3 (x4 + 1) (hs h 24 (h 15 10 * 16 + x4).toNatClampNeg 0) (by rw [hk]; exact f3') f4 (by omega) (by omega) (by omega)
      rw [hk] at a3 a4
      refine ⟨h', a1, fun p i hp => ?_, fun j hj hk2 => ?_, fun i hi => ?_⟩
      · rw [a2 p i hp, hs_o (fun w => hp w.1)]
      · by_cases d : (j : Int) = x4.toInt
        · rw [a4 _ (by omega), hs_get, if_pos rfl, if_pos (by omega)]
        · exact a3 j (by omega) hk2
      · rw [a4 i (by omega), hs_o (fun w => by omega)]
theorem new_sim {z : zT} {h h' g : ph_H} {kd sz slot : Int32} (R : RC h g) (I : IM z g) (hl : (g 0 18).toInt < 12) (hz : sz.toInt ≤ 16) (hf : ∀ p i, ¬ p = 24 → h' p i = h p i) (hr : ∀ i : Nat, (i : Int) < 16 * (g 0 18).toInt → h' 24 i = h 24 i) (h0 : ∀ j : Nat, (j : Int) < sz.toInt → h' 24 (16 * (g 0 18).toNatClampNeg + j) = 0) :
    RC (FX3_makeThing_s slot kd sz h').2 (hs (hs (FX12_newThing kd sz g).2 10 slot.toNatClampNeg kd) 11 slot.toNatClampNeg (g 0 18)) := by
  have tn := th_nn I
  have k1 : (1 : Int32).toInt = 1 := by decide
  obtain ⟨g', a1, a2, a3, a4⟩ := nt_eq (k := kd) (n := sz) I hl
  have R1 := (R.rowc I hf hr).rowr I a2 a4
  have e0 : g' 0 18 = g 0 18 := a2 0 18 (by decide)
  have e1 : h' 15 10 = g 0 18 := by rw [hf _ _ (by decide)]; exact R.2.2.2.1.1
  have I1 : IVm g' := fun k i => by
    by_cases c : k = 19
    · subst c
      exact iv_any _
    · rw [a2 k i c]
      exact I.1 k i
  have I2 : IM z g' := ⟨I1, fun i => by rw [a2 10 i (by decide), a2 11 i (by decide)]; exact I.2.1 i, fun k i q => by
    by_cases c : k = 19
    · subst c
      rw [show gz 19 i = false from rfl] at q
      exact absurd q (by decide)
    · rw [a2 k i c]
      exact I.2.2 k i q⟩
  have R2 := R1.new (kd := kd) (sz := sz) I2 (by rw [e0]; exact hl) (fun i hi => by
    rw [e0, h0 i hi]
    exact (a3 i (by omega)).symm)
  rw [e0] at R2
  rw [a1]
  unfold FX3_makeThing_s
  rw [e1]
  refine R2.slot (Or.inr ⟨tn.1, ?_, ?_⟩)
  · rw [hs_self, ti_add (by omega) (by omega), k1]
    omega
  · rw [hs_o (by simp), hs_o (by simp), hs_o (by simp), hs_self]
theorem nt_0 {z : zT} {k n : Int32} {g : ph_H} (I : IM z g) (hl : (g 0 18).toInt < 12) {j : Nat} (e : ¬ j = 18) : (FX12_newThing k n g).2 0 j = g 0 j := by
  obtain ⟨g', a, b, c⟩ := nt_eq (k := k) (n := n) I hl
  rw [a]
  simp [hs_get, b 0 j (by decide), e]
theorem th12 {z : zT} {g : ph_H} (I : IM z g) : g 0 18 < 12 ↔ ¬ g 0 18 = 12 := by
  have tn := th_nn I
  have k12 : (12 : Int32).toInt = 12 := by decide
  rw [Int32.lt_iff_toInt_lt, k12]
  constructor
  · intro a b
    rw [b] at a
    omega
  · intro a
    have : ¬ (g 0 18).toInt = 12 := fun w => a (tI (w.trans k12.symm))
    omega
theorem op_8 {z : zT} {h g : ph_H} {t : Int32} (R : RC h g) (I : IM z g) (ht : iv 0 3 t) (S : S0c t h g) (e18 : h 18 t.toNatClampNeg = g 12 t.toNatClampNeg) {i : Int32} (q0 : h 10 (FX5_firstPart_t t (h 18 t.toNatClampNeg) h).toNatClampNeg = g 2 i.toNatClampNeg) (q1 : h 10 ((FX5_firstPart_t t (h 18 t.toNatClampNeg) h) + 1).toNatClampNeg = g 3 i.toNatClampNeg) (q2 : h 10 ((FX5_firstPart_t t (h 18 t.toNatClampNeg) h) + 2).toNatClampNeg = g 4 i.toNatClampNeg) (q3 : h 10 ((FX5_firstPart_t t (h 18 t.toNatClampNeg) h) + 3).toNatClampNeg = g 5 i.toNatClampNeg) (o : g 2 i.toNatClampNeg = 8) : SIM t (FX3_perform_s t h) (FX12_instruct t i g) := by
  rw [pf_8 (q0.trans o) q1 q2 q3, slot_eq t _ g, slot_eq t _ g]
  unfold FX3_makeRow_s
  obtain ⟨b1, b2⟩ := R.1 _ (sl_lt (a := g 4 i.toNatClampNeg) (g := g) ht)
  have e10 := R.2.2.2.1.1
  rw [b1, b2, e10]
  by_cases c1 : g 10 (FX12_local t (g 4 i.toNatClampNeg) g).toNatClampNeg = 0
  · by_cases c2 : 0 ≤ g 11 (FX12_local t (g 4 i.toNatClampNeg) g).toNatClampNeg
    · by_cases c3 : 16 < g 11 (FX12_local t (g 4 i.toNatClampNeg) g).toNatClampNeg
      · simp (decide := true) only [c1, c2, c3, ↓reduceIte]
        rw [ins_f (w := 3) (by rw [o]; decide) (by rw [o]; unfold FX12_why FX12_why_169; simp (decide := true) only [c1, c2, c3, ↓reduceIte]) (by decide)]
        exact fin_fail R S (by decide) (by decide)
      · by_cases c4 : g 0 18 = 12
        · have c5 : ¬ g 0 18 < 12 := fun w => (th12 I).mp w c4
          simp only [c1, c2, c3, c5, ↓reduceIte]
          rw [ins_f (w := 3) (by rw [o]; decide) (by rw [o]; unfold FX12_why FX12_why_169; simp (decide := true) only [c1, c2, c3, c4, ↓reduceIte]) (by decide)]
          exact fin_fail R S (by decide) (by decide)
        · have c5 : g 0 18 < 12 := (th12 I).mpr c4
          have hl : (g 0 18).toInt < 12 := by
            rw [Int32.lt_iff_toInt_lt] at c5
            exact c5
          simp only [c1, c2, c3, c5, ↓reduceIte]
          rw [ins_8 I hl o c1 c2 c3 c4]
          have k0 : (0 : Int32).toInt = 0 := by decide
          have k16 : (16 : Int32).toInt = 16 := by decide
          have tn := th_nn I
          have c2i := c2
          have c3i := c3
          rw [Int32.le_iff_toInt_le, k0] at c2i
          rw [Int32.lt_iff_toInt_lt, k16] at c3i
          obtain ⟨h', m1, m2, m3, m4⟩ := mr44 2000 (FX12_local t (g 3 i.toNatClampNeg) g) (g 11 (FX12_local t (g 4 i.toNatClampNeg) g).toNatClampNeg) 0 h (by rw [e10]; exact ⟨tn.1, by omega⟩) ⟨c2i, by omega⟩ (by decide) (by omega) (by omega)
          rw [m1]
          rw [e10] at m3 m4
          have I1 : IM z (hs g 0 25 0) := IMs I (iv_any _) rfl
          have hl1 : (hs g 0 25 0 0 18).toInt < 12 := by rw [hs_o (by simp)]; exact hl
          have N := new_sim (kd := 1) (sz := g 11 (FX12_local t (g 4 i.toNatClampNeg) g).toNatClampNeg) (slot := (FX12_local t (g 3 i.toNatClampNeg) g)) (R.rs (i := 25) (v := 0) rfl) I1 hl1 (by omega) m2 (fun i hi => m4 i (by rw [hs_o (by simp)] at hi; omega)) (fun j hj => by rw [hs_o (by simp)]; exact m3 j (by omega) hj)
          rw [hs_o (by simp)] at N
          obtain ⟨s1, s2, s3, s4, s5, s6, s7⟩ := S
          have F : ∀ j, 12 < j → (FX3_makeThing_s (FX12_local t (g 3 i.toNatClampNeg) g) 1 (g 11 (FX12_local t (g 4 i.toNatClampNeg) g).toNatClampNeg) h').2 15 j = h 15 j := fun j hj => by
            unfold FX3_makeThing_s
            have : ¬ j = 10 := by omega
            simp [hs_get, this, m2 15 j (by decide)]
          refine fin_go (X := (FX3_makeThing_s (FX12_local t (g 3 i.toNatClampNeg) g) 1 (g 11 (FX12_local t (g 4 i.toNatClampNeg) g).toNatClampNeg) h').2) N ?_ ?_ (by
            have z29 := nt_0 (k := 1) (n := g 11 (FX12_local t (g 4 i.toNatClampNeg) g).toNatClampNeg) I1 hl1 (j := 29) (by decide)
            have z30 := nt_0 (k := 1) (n := g 11 (FX12_local t (g 4 i.toNatClampNeg) g).toNatClampNeg) I1 hl1 (j := 30) (by decide)
            simp [PLp, hs_get, z29, z30, s5, s6]) ?_
          · have z29 := nt_0 (k := 1) (n := g 11 (FX12_local t (g 4 i.toNatClampNeg) g).toNatClampNeg) I1 hl1 (j := 29) (by decide)
            have z30 := nt_0 (k := 1) (n := g 11 (FX12_local t (g 4 i.toNatClampNeg) g).toNatClampNeg) I1 hl1 (j := 30) (by decide)
            have z31 := nt_0 (k := 1) (n := g 11 (FX12_local t (g 4 i.toNatClampNeg) g).toNatClampNeg) I1 hl1 (j := 31) (by decide)
            simp [EF, hs_get, F, z29, z30, z31, s2, s3, s4, s5, s6, s7]
          · have z25 := nt_0 (k := 1) (n := g 11 (FX12_local t (g 4 i.toNatClampNeg) g).toNatClampNeg) I1 hl1 (j := 25) (by decide)
            simp [hs_get, z25]
          · rw [F 13 (by decide), s1, e18]
    · simp (decide := true) only [c1, c2, ↓reduceIte]
      rw [ins_f (w := 2) (by rw [o]; decide) (by rw [o]; unfold FX12_why; simp (decide := true) only [c1, c2, ↓reduceIte]) (by decide)]
      exact fin_fail R S (by decide) (by decide)
  · simp (decide := true) only [c1, ↓reduceIte]
    rw [ins_f (w := 1) (by rw [o]; decide) (by rw [o]; unfold FX12_why; simp (decide := true) only [c1, ↓reduceIte]) (by decide)]
    exact fin_fail R S (by decide) (by decide)
theorem mkl {z : zT} {h g : ph_H} {t i : Int32} {kd : Int32} (R : RC h g) (I : IM z g) (ht : iv 0 3 t) (S : S0c t h g) (e18 : h 18 t.toNatClampNeg = g 12 t.toNatClampNeg) (o : g 2 i.toNatClampNeg = 11) (c4 : ¬ g 0 18 = 12) (hk : kd = if (g 4 i.toNatClampNeg - g 4 i.toNatClampNeg / 2 * 2) = 0 then 2 else 3) : SIM t (FX3_makeThing_s (FX12_local t (g 3 i.toNatClampNeg) g) kd 0 h) (FX12_instruct t i g) := by
  have c5 : g 0 18 < 12 := (th12 I).mpr c4
  have hl : (g 0 18).toInt < 12 := by
    rw [Int32.lt_iff_toInt_lt] at c5
    exact c5
  rw [ins_11 I hl o c4 hk]
  have k0 : (0 : Int32).toInt = 0 := by decide
  have I1 : IM z (hs g 0 25 0) := IMs I (iv_any _) rfl
  have hl1 : (hs g 0 25 0 0 18).toInt < 12 := by rw [hs_o (by simp)]; exact hl
  have N := new_sim (kd := kd) (sz := 0) (slot := (FX12_local t (g 3 i.toNatClampNeg) g)) (R.rs (i := 25) (v := 0) rfl) I1 hl1 (by decide) (fun _ _ _ => rfl) (fun _ _ => rfl) (fun j hj => by omega)
  rw [hs_o (by simp)] at N
  obtain ⟨s1, s2, s3, s4, s5, s6, s7⟩ := S
  have F : ∀ j, 12 < j → (FX3_makeThing_s (FX12_local t (g 3 i.toNatClampNeg) g) kd 0 h).2 15 j = h 15 j := fun j hj => by
    unfold FX3_makeThing_s
    have : ¬ j = 10 := by omega
    simp [hs_get, this]
  refine fin_go (X := (FX3_makeThing_s (FX12_local t (g 3 i.toNatClampNeg) g) kd 0 h).2) N ?_ ?_ (by
    have z29 := nt_0 (k := kd) (n := 0) I1 hl1 (j := 29) (by decide)
    have z30 := nt_0 (k := kd) (n := 0) I1 hl1 (j := 30) (by decide)
    simp [PLp, hs_get, z29, z30, s5, s6]) ?_
  · have z29 := nt_0 (k := kd) (n := 0) I1 hl1 (j := 29) (by decide)
    have z30 := nt_0 (k := kd) (n := 0) I1 hl1 (j := 30) (by decide)
    have z31 := nt_0 (k := kd) (n := 0) I1 hl1 (j := 31) (by decide)
    simp [EF, hs_get, F, z29, z30, z31, s2, s3, s4, s5, s6, s7]
  · have z25 := nt_0 (k := kd) (n := 0) I1 hl1 (j := 25) (by decide)
    simp [hs_get, z25]
  · rw [F 13 (by decide), s1, e18]
theorem op_11 {z : zT} {h g : ph_H} {t : Int32} (R : RC h g) (I : IM z g) (ht : iv 0 3 t) (S : S0c t h g) (e18 : h 18 t.toNatClampNeg = g 12 t.toNatClampNeg) {i : Int32} (q0 : h 10 (FX5_firstPart_t t (h 18 t.toNatClampNeg) h).toNatClampNeg = g 2 i.toNatClampNeg) (q1 : h 10 ((FX5_firstPart_t t (h 18 t.toNatClampNeg) h) + 1).toNatClampNeg = g 3 i.toNatClampNeg) (q2 : h 10 ((FX5_firstPart_t t (h 18 t.toNatClampNeg) h) + 2).toNatClampNeg = g 4 i.toNatClampNeg) (q3 : h 10 ((FX5_firstPart_t t (h 18 t.toNatClampNeg) h) + 3).toNatClampNeg = g 5 i.toNatClampNeg) (o : g 2 i.toNatClampNeg = 11) : SIM t (FX3_perform_s t h) (FX12_instruct t i g) := by
  rw [pf_11 (q0.trans o) q1 q2 q3, slot_eq t _ g]
  unfold FX3_makeLock_s FX3_makeLock_s_22
  have e10 := R.2.2.2.1.1
  rw [e10]
  by_cases c4 : g 0 18 = 12
  · have c5 : ¬ g 0 18 < 12 := fun w => (th12 I).mp w c4
    rw [ins_f (w := 3) (by rw [o]; decide) (by rw [o]; unfold FX12_why; simp (decide := true) only [c4, ↓reduceIte]) (by decide)]
    simp only [c5, ↓reduceIte, ite_self]
    exact fin_fail R S (by decide) (by decide)
  · have c5 : g 0 18 < 12 := (th12 I).mpr c4
    by_cases b : (g 4 i.toNatClampNeg &&& 1) = 0
    · simp (decide := true) only [b, c5, ↓reduceIte]
      exact mkl R I ht S e18 o c4 (by rw [if_pos ((and1_even _).mp b)])
    · simp (decide := true) only [b, c5, ↓reduceIte]
      exact mkl R I ht S e18 o c4 (by rw [if_neg (fun w => b ((and1_even _).mpr w))])
/-! WORD -/
theorem wk28 {z : zT} {a : Int32} : ∀ (q : Nat) (x : Int32) (h g : ph_H), RC h g → IM z g → 0 ≤ (g 11 a.toNatClampNeg).toInt → iv 0 4 x → 4 - x.toInt < (q : Int) → ∃ h', FX3_wakeSleepers_s_28 q (g 11 a.toNatClampNeg) x h = (0, hs h' 15 16 3) ∧ RC h' (FX12_work_391 q a x g) ∧ (∀ p i, ¬ p = 19 → h' p i = h p i)
  | 0, x, h, g, R, I, n, f, m => by unfold iv at f; omega
  | q + 1, x, h, g, R, I, n, f, m => by
    have k1 : (1 : Int32).toInt = 1 := by decide
    have k4 : (4 : Int32).toInt = 4 := by decide
    have xn := iv_nat f rfl
    unfold iv at f
    unfold FX3_wakeSleepers_s_28 FX3_wakeSleepers_s_64 FX12_work_391 FX12_work_435
    by_cases c : 4 ≤ x
    · rw [if_pos c, if_pos c]
      exact ⟨h, rfl, R, fun _ _ _ => rfl⟩
    · rw [if_neg c, if_neg c]
      rw [Int32.le_iff_toInt_le, k4] at c
      have e4 : (x + 1).toInt = x.toInt + 1 := by rw [ti_add (by omega) (by omega), k1]
      have hx : x.toNatClampNeg < 4 := by omega
      have md := R.2.2.1 _ hx
      by_cases d : g 14 x.toNatClampNeg = g 11 a.toNatClampNeg
      · rw [if_pos d]
        have m2 : h 19 x.toNatClampNeg = 2 ∧ h 20 x.toNatClampNeg = g 11 a.toNatClampNeg := by
          have n1 : (-1 : Int32).toInt = -1 := by decide
          rcases md with ⟨_, _, w, _⟩ | ⟨_, _, w, _⟩ | ⟨m, _, w, _, _⟩ | ⟨_, _, w, _⟩
          · rw [← d, w] at n; omega
          · rw [← d, w] at n; omega
          · exact ⟨m, w.symm.trans d⟩
          · rw [← d, w] at n; omega
        rw [if_pos m2.1, if_pos m2.2]
        have R1 := R.wake I hx m2.1
        have e11 : hs (hs g 15 x.toNatClampNeg (g 14 x.toNatClampNeg)) 14 x.toNatClampNeg (-1) 11 a.toNatClampNeg = g 11 a.toNatClampNeg := by rw [hs_o (by simp), hs_o (by simp)]
        have I1 : IM z (hs (hs g 15 x.toNatClampNeg (g 14 x.toNatClampNeg)) 14 x.toNatClampNeg (-1)) := IMs (IMs I (k := 15) (i := x.toNatClampNeg) (IMv I 14 x.toNatClampNeg) rfl) (k := 14) (i := x.toNatClampNeg) (show iv (-1) 11 (-1) from ⟨by decide, by decide⟩) rfl
        obtain ⟨h', b1, b2, b3⟩ := wk28 q (x + 1) _ _ R1 I1 (by rw [e11]; exact n) (by unfold iv; omega) (by omega)
        rw [e11] at b1
        exact ⟨h', b1, b2, fun p i hp => by rw [b3 p i hp, hs_o (fun w => hp w.1)]⟩
      · rw [if_neg d]
        have : (if h 19 x.toNatClampNeg = 2 then (if h 20 x.toNatClampNeg = g 11 a.toNatClampNeg then FX3_wakeSleepers_s_28 q (g 11 a.toNatClampNeg) (x + 1) (hs h 19 x.toNatClampNeg 3) else FX3_wakeSleepers_s_28 q (g 11 a.toNatClampNeg) (x + 1) h) else FX3_wakeSleepers_s_28 q (g 11 a.toNatClampNeg) (x + 1) h) = FX3_wakeSleepers_s_28 q (g 11 a.toNatClampNeg) (x + 1) h := by
          by_cases u : h 19 x.toNatClampNeg = 2
          · have w := MD2 md u
            rw [if_pos u, if_neg (fun v => d (w.2.1.trans v))]
          · rw [if_neg u]
        rw [this]
        exact wk28 q (x + 1) h g R I n (by unfold iv; omega) (by omega)
theorem op_15 {z : zT} {h g : ph_H} {t : Int32} (R : RC h g) (I : IM z g) (ht : iv 0 3 t) (S : S0c t h g) (e18 : h 18 t.toNatClampNeg = g 12 t.toNatClampNeg) {i : Int32} (q0 : h 10 (FX5_firstPart_t t (h 18 t.toNatClampNeg) h).toNatClampNeg = g 2 i.toNatClampNeg) (q1 : h 10 ((FX5_firstPart_t t (h 18 t.toNatClampNeg) h) + 1).toNatClampNeg = g 3 i.toNatClampNeg) (q2 : h 10 ((FX5_firstPart_t t (h 18 t.toNatClampNeg) h) + 2).toNatClampNeg = g 4 i.toNatClampNeg) (q3 : h 10 ((FX5_firstPart_t t (h 18 t.toNatClampNeg) h) + 3).toNatClampNeg = g 5 i.toNatClampNeg) (o : g 2 i.toNatClampNeg = 15) : SIM t (FX3_perform_s t h) (FX12_instruct t i g) := by
  rw [pf_15 (q0.trans o) q1 q2 q3, slot_eq t _ g]
  unfold FX3_wakeSleepers_s
  rw [gate_eq R (sl_lt ht)]
  by_cases l : g 10 (FX12_local t (g 3 i.toNatClampNeg) g).toNatClampNeg = 3
  · have l0 : ¬ g 10 (FX12_local t (g 3 i.toNatClampNeg) g).toNatClampNeg = 0 := fun w => absurd (w.symm.trans l) (by decide)
    have lo := own_at R (sl_lt ht) l0
    obtain ⟨a, b, c⟩ := refs R (sl_lt ht) l0
    have nn := nn_le (x := g 11 (FX12_local t (g 3 i.toNatClampNeg) g).toNatClampNeg) (by omega)
    simp (decide := true) only [l, nn, ↓reduceIte]
    by_cases u : g 17 (g 11 (FX12_local t (g 3 i.toNatClampNeg) g).toNatClampNeg).toNatClampNeg = t
    · rw [if_pos ((OW_own lo ht).mpr u), ins_15 o l u]
      have I1 : IM z (hs (hs (hs g 0 25 0) 0 31 3) 0 32 (g 11 (FX12_local t (g 3 i.toNatClampNeg) g).toNatClampNeg)) := IMs (IMs (IMs I (k := 0) (i := 25) (iv_any _) rfl) (k := 0) (i := 31) (iv_any _) rfl) (k := 0) (i := 32) (iv_any _) rfl
      have e11 : hs (hs (hs g 0 25 0) 0 31 3) 0 32 (g 11 (FX12_local t (g 3 i.toNatClampNeg) g).toNatClampNeg) 11 (FX12_local t (g 3 i.toNatClampNeg) g).toNatClampNeg = g 11 (FX12_local t (g 3 i.toNatClampNeg) g).toNatClampNeg := by rw [hs_o (by simp), hs_o (by simp), hs_o (by simp)]
      obtain ⟨h', b1, b2, b3⟩ := wk28 (z := z) (a := (FX12_local t (g 3 i.toNatClampNeg) g)) 2000 0 h (hs (hs (hs g 0 25 0) 0 31 3) 0 32 (g 11 (FX12_local t (g 3 i.toNatClampNeg) g).toNatClampNeg)) (((R.rs rfl).rs rfl).rs rfl) I1 (by rw [e11]; omega) ⟨by decide, by decide⟩ (by decide)
      rw [e11] at b1
      rw [b1]
      obtain ⟨s1, s2, s3, s4, s5, s6, s7⟩ := S
      have W : ∀ j, FX12_work_391 2000 (FX12_local t (g 3 i.toNatClampNeg) g) 0 (hs (hs (hs g 0 25 0) 0 31 3) 0 32 (g 11 (FX12_local t (g 3 i.toNatClampNeg) g).toNatClampNeg)) 0 j = hs (hs (hs g 0 25 0) 0 31 3) 0 32 (g 11 (FX12_local t (g 3 i.toNatClampNeg) g).toNatClampNeg) 0 j := fun j => w391_o _ _ _ _ _ _ (by decide) (by decide)
      have F : ∀ j, h' 15 j = h 15 j := fun j => b3 15 j (by decide)
      refine fin_go (b2.cs (by decide)) ?_ ?_ (by simp [PLp, W, hs_get, s5, s6]) ?_
      · simp [EF, W, F, hs_get, s2, s3, s4, s5, s6, s7]
      · simp [W, hs_get]
      · simp [hs_get, F, s1, e18]
    · rw [ins_f (w := 6) (by rw [o]; decide) (by rw [o]; unfold FX12_why; simp (decide := true) only [l, u, ↓reduceIte]) (by decide), if_neg (fun w => u ((OW_own lo ht).mp w))]
      exact fin_fail R S (by decide) (by decide)
  · rw [ins_f (w := 1) (by rw [o]; decide) (by rw [o]; unfold FX12_why; simp (decide := true) only [l, ↓reduceIte]) (by decide)]
    simp (decide := true) only [l, le_n1, ↓reduceIte]
    exact fin_fail R S (by decide) (by decide)
