section MG_48_x10A9k
/-! KEPT ROWS: what keep writes -/
theorem state_c {t : Int32} {g g' : ph_H} (e2 : ∀ i, g' 2 i = g 2 i) (e3 : ∀ i, g' 3 i = g 3 i) (e10 : ∀ i, g' 10 i = g 10 i) (e11 : ∀ i, g' 11 i = g 11 i) (e12 : ∀ i, g' 12 i = g 12 i) (e13 : ∀ i, g' 13 i = g 13 i) (e14 : ∀ i, g' 14 i = g 14 i) (e15 : ∀ i, g' 15 i = g 15 i) (e17 : ∀ i, g' 17 i = g 17 i) : FX12_state t g' = FX12_state t g := by
  unfold FX12_state FX12_canGo FX12_canGo_107 FX12_canGo_108 FX12_canGo_144 FX12_isLock FX12_isLock_20 FX12_local
  simp only [e2, e3, e10, e11, e12, e13, e14, e15, e17]
theorem kp171 {th : Int} : ∀ (q : Nat) (s x : Int32) (g : ph_H), iv 0 300 s → (g 0 18).toInt = th → 0 ≤ th → th ≤ 12 → 0 ≤ x.toInt → x.toInt ≤ 16 * th → 16 * th - x.toInt < (q : Int) → (∀ i : Nat, x.toInt ≤ i → (i : Int) < 16 * th → FX12_keep_171 q s x g 28 (192 * s.toNatClampNeg + i) = g 19 i) ∧ (∀ j : Nat, (j : Int) < 192 * s.toInt + x.toInt → FX12_keep_171 q s x g 28 j = g 28 j)
  | 0, s, x, g, f, et, t0, t1, x0, x1, m => by omega
  | q + 1, s, x, g, f, et, t0, t1, x0, x1, m => by
    have k1 : (1 : Int32).toInt = 1 := by decide
    have k16 : (16 : Int32).toInt = 16 := by decide
    have k192 : (192 : Int32).toInt = 192 := by decide
    have sn := iv_nat f rfl
    have f' := f
    unfold iv at f
    have em : (16 * g 0 18).toInt = 16 * th := by rw [ti_mul (by rw [k16, et]; omega) (by rw [k16, et]; omega), k16, et]
    unfold FX12_keep_171
    by_cases c : 16 * g 0 18 ≤ x
    · rw [if_pos c]
      rw [Int32.le_iff_toInt_le, em] at c
      exact ⟨fun i a b => by omega, fun _ _ => rfl⟩
    · rw [if_neg c]
      rw [Int32.le_iff_toInt_le, em] at c
      have xn : (x.toNatClampNeg : Int) = x.toInt := by
        rw [← Int32.toNat_toInt]
        omega
      have e1 : (x + 1).toInt = x.toInt + 1 := by rw [ti_add (by omega) (by omega), k1]
      have es : (192 * s).toInt = 192 * s.toInt := by rw [ti_mul (by rw [k192]; omega) (by rw [k192]; omega), k192]
      have ea : (192 * s + x).toInt = 192 * s.toInt + x.toInt := by rw [ti_add (by omega) (by omega), es]
      have ix : ((192 * s + x).toNatClampNeg : Int) = 192 * s.toInt + x.toInt := by
        rw [← Int32.toNat_toInt]
        omega
      obtain ⟨a1, a2⟩ := kp171 (th := th) q s (x + 1) (hs g 28 (192 * s + x).toNatClampNeg (g 19 x.toNatClampNeg)) f' (by rw [hs_o (by simp)]; exact et) t0 t1 (by omega) (by omega) (by omega)
      refine ⟨fun i p r => ?_, fun j p => ?_⟩
      · by_cases d : (i : Int) = x.toInt
        · have ii : 192 * s.toNatClampNeg + i = (192 * s + x).toNatClampNeg := by omega
          have dx : i = x.toNatClampNeg := by omega
          rw [a2 _ (by omega), ii, hs_self, dx]
        · rw [a1 i (by omega) r, hs_o (by simp)]
      · rw [a2 j (by omega), hs_o (fun w => by omega)]
theorem kp104 {th : Int} : ∀ (q : Nat) (s x : Int32) (g : ph_H), iv 0 300 s → (g 0 18).toInt = th → 0 ≤ th → th ≤ 12 → 0 ≤ x.toInt → x.toInt ≤ th → th - x.toInt < (q : Int) → (∀ i : Nat, x.toInt ≤ i → (i : Int) < th → FX12_keep_104 q s x g 25 (12 * s.toNatClampNeg + i) = g 16 i ∧ FX12_keep_104 q s x g 26 (12 * s.toNatClampNeg + i) = g 17 i ∧ FX12_keep_104 q s x g 27 (12 * s.toNatClampNeg + i) = g 18 i) ∧ (∀ j : Nat, (j : Int) < 12 * s.toInt + x.toInt → FX12_keep_104 q s x g 25 j = g 25 j ∧ FX12_keep_104 q s x g 26 j = g 26 j ∧ FX12_keep_104 q s x g 27 j = g 27 j) ∧ (∀ i : Nat, (i : Int) < 16 * th → FX12_keep_104 q s x g 28 (192 * s.toNatClampNeg + i) = g 19 i) ∧ (∀ j : Nat, (j : Int) < 192 * s.toInt → FX12_keep_104 q s x g 28 j = g 28 j)
  | 0, s, x, g, f, et, t0, t1, x0, x1, m => by omega
  | q + 1, s, x, g, f, et, t0, t1, x0, x1, m => by
    have k1 : (1 : Int32).toInt = 1 := by decide
    have k0 : (0 : Int32).toInt = 0 := by decide
    have k12 : (12 : Int32).toInt = 12 := by decide
    have sn := iv_nat f rfl
    have f' := f
    unfold iv at f
    unfold FX12_keep_104
    by_cases c : g 0 18 ≤ x
    · rw [if_pos c]
      rw [Int32.le_iff_toInt_le, et] at c
      have e : EQ pK28 g (FX12_keep_171 2000 s 0 g) := fr28_FX12_keep_171 _ _ _ _ (EQ_r g)
      obtain ⟨a1, a2⟩ := kp171 (th := th) 2000 s 0 g f' et t0 t1 (by decide) (by omega) (by omega)
      exact ⟨fun i a b => by omega, fun j _ => ⟨e 25 j rfl, e 26 j rfl, e 27 j rfl⟩, fun i hi => a1 i (by omega) hi, fun j hj => a2 j (by omega)⟩
    · rw [if_neg c]
      rw [Int32.le_iff_toInt_le, et] at c
      have xn : (x.toNatClampNeg : Int) = x.toInt := by
        rw [← Int32.toNat_toInt]
        omega
      have e1 : (x + 1).toInt = x.toInt + 1 := by rw [ti_add (by omega) (by omega), k1]
      have es : (12 * s).toInt = 12 * s.toInt := by rw [ti_mul (by rw [k12]; omega) (by rw [k12]; omega), k12]
      have ea : (12 * s + x).toInt = 12 * s.toInt + x.toInt := by rw [ti_add (by omega) (by omega), es]
      have ix : ((12 * s + x).toNatClampNeg : Int) = 12 * s.toInt + x.toInt := by
        rw [← Int32.toNat_toInt]
        omega
      obtain ⟨a1, a2, a3, a4⟩ := kp104 (th := th) q s (x + 1) (hs (hs (hs g 25 (12 * s + x).toNatClampNeg (g 16 x.toNatClampNeg)) 26 (12 * s + x).toNatClampNeg (g 17 x.toNatClampNeg)) 27 (12 * s + x).toNatClampNeg (g 18 x.toNatClampNeg)) f' (by rw [hs_o (by simp), hs_o (by simp), hs_o (by simp)]; exact et) t0 t1 (by omega) (by omega) (by omega)
      refine ⟨fun i p r => ?_, fun j p => ?_, fun i p => ?_, fun j p => ?_⟩
      · by_cases d : (i : Int) = x.toInt
        · have ii : 12 * s.toNatClampNeg + i = (12 * s + x).toNatClampNeg := by omega
          have dx : i = x.toNatClampNeg := by omega
          obtain ⟨b1, b2, b3⟩ := a2 (12 * s.toNatClampNeg + i) (by omega)
          rw [b1, b2, b3, ii, dx]
          refine ⟨?_, ?_, ?_⟩
          · rw [hs_o (by simp), hs_o (by simp), hs_self]
          · rw [hs_o (by simp), hs_self]
          · rw [hs_self]
        · obtain ⟨b1, b2, b3⟩ := a1 i (by omega) r
          rw [b1, b2, b3]
          simp [hs_get]
      · have n : ¬ j = (12 * s + x).toNatClampNeg := by omega
        obtain ⟨b1, b2, b3⟩ := a2 j (by omega)
        rw [b1, b2, b3]
        simp [hs_get, n]
      · rw [a3 i p]
        simp [hs_get]
      · rw [a4 j p]
        simp [hs_get]
def KRr (g : ph_H) (s : Nat) (G : ph_H) : Prop := (∀ x : Nat, (x : Int) < (G 0 18).toInt → g 25 (12 * s + x) = G 16 x ∧ g 26 (12 * s + x) = G 17 x ∧ g 27 (12 * s + x) = G 18 x) ∧ (∀ i : Nat, (i : Int) < 16 * (G 0 18).toInt → g 28 (192 * s + i) = G 19 i)
def KR (g : ph_H) (s : Nat) (G : ph_H) : Prop := (∀ k, k < 28 → g 20 (28 * s + k) = G 10 k ∧ g 21 (28 * s + k) = G 11 k) ∧ (∀ t : Int32, iv 0 3 t → g 22 (4 * s + t.toNatClampNeg) = G 12 t.toNatClampNeg ∧ g 23 (4 * s + t.toNatClampNeg) = FX12_state t G) ∧ g 24 s = G 0 18 ∧ KRr g s G
theorem kp50 {th : Int} : ∀ (q : Nat) (s x : Int32) (g : ph_H), iv 0 300 s → (g 0 18).toInt = th → 0 ≤ th → th ≤ 12 → iv 0 4 x → 4 - x.toInt < (q : Int) → (∀ t : Int32, x.toInt ≤ t.toInt → t.toInt < 4 → FX12_keep_50 q s x g 22 (4 * s.toNatClampNeg + t.toNatClampNeg) = g 12 t.toNatClampNeg ∧ FX12_keep_50 q s x g 23 (4 * s.toNatClampNeg + t.toNatClampNeg) = FX12_state t g) ∧ (∀ j : Nat, (j : Int) < 4 * s.toInt + x.toInt → FX12_keep_50 q s x g 22 j = g 22 j ∧ FX12_keep_50 q s x g 23 j = g 23 j) ∧ (FX12_keep_50 q s x g 24 s.toNatClampNeg = g 0 18 ∧ ∀ j : Nat, ¬ j = s.toNatClampNeg → FX12_keep_50 q s x g 24 j = g 24 j) ∧ KRr (FX12_keep_50 q s x g) s.toNatClampNeg g ∧ (∀ j : Nat, ((j : Int) < 12 * s.toInt → FX12_keep_50 q s x g 25 j = g 25 j ∧ FX12_keep_50 q s x g 26 j = g 26 j ∧ FX12_keep_50 q s x g 27 j = g 27 j) ∧ ((j : Int) < 192 * s.toInt → FX12_keep_50 q s x g 28 j = g 28 j))
  | 0, s, x, g, f, et, t0, t1, fx, m => by unfold iv at fx; omega
  | q + 1, s, x, g, f, et, t0, t1, fx, m => by
    have k1 : (1 : Int32).toInt = 1 := by decide
    have k0 : (0 : Int32).toInt = 0 := by decide
    have k4 : (4 : Int32).toInt = 4 := by decide
    have sn := iv_nat f rfl
    have xn := iv_nat fx rfl
    have f' := f
    unfold iv at f fx
    unfold FX12_keep_50
    by_cases c : 4 ≤ x
    · rw [if_pos c]
      rw [Int32.le_iff_toInt_le, k4] at c
      have e := fr4_FX12_keep_104 (h0 := hs g 24 s.toNatClampNeg (g 0 18)) 2000 s 0 _ (EQ_r _)
      obtain ⟨a1, a2, a3, a4⟩ := kp104 (th := th) 2000 s 0 (hs g 24 s.toNatClampNeg (g 0 18)) f' (by rw [hs_o (by simp)]; exact et) t0 t1 (by decide) (by omega) (by omega)
      generalize FX12_keep_104 2000 s 0 (hs g 24 s.toNatClampNeg (g 0 18)) = G at *
      have o : ∀ k i, ¬ k = 24 → hs g 24 s.toNatClampNeg (g 0 18) k i = g k i := fun k i q => hs_o (fun w => q w.1)
      refine ⟨fun t p r => by omega, fun j p => ?_, ⟨?_, fun j p => ?_⟩, ⟨fun i p => ?_, fun i p => ?_⟩, fun j => ⟨fun p => ?_, fun p => ?_⟩⟩
      · rw [e 22 j rfl, e 23 j rfl, o 22 j (by decide), o 23 j (by decide)]
        exact ⟨rfl, rfl⟩
      · rw [e 24 _ rfl, hs_self]
      · rw [e 24 j rfl, hs_o (fun w => p w.2)]
      · obtain ⟨b1, b2, b3⟩ := a1 i (by omega) (by omega)
        rw [b1, b2, b3, o _ _ (by decide), o _ _ (by decide), o _ _ (by decide)]
        exact ⟨rfl, rfl, rfl⟩
      · rw [a3 i (by omega), o _ _ (by decide)]
      · obtain ⟨b1, b2, b3⟩ := a2 j (by omega)
        rw [b1, b2, b3, o _ _ (by decide), o _ _ (by decide), o _ _ (by decide)]
        exact ⟨rfl, rfl, rfl⟩
      · rw [a4 j p, o _ _ (by decide)]
    · rw [if_neg c]
      rw [Int32.le_iff_toInt_le, k4] at c
      have e1 : (x + 1).toInt = x.toInt + 1 := by rw [ti_add (by omega) (by omega), k1]
      have es : (4 * s).toInt = 4 * s.toInt := by rw [ti_mul (by rw [k4]; omega) (by rw [k4]; omega), k4]
      have ea : (4 * s + x).toInt = 4 * s.toInt + x.toInt := by rw [ti_add (by omega) (by omega), es]
      have ix : ((4 * s + x).toNatClampNeg : Int) = 4 * s.toInt + x.toInt := by
        rw [← Int32.toNat_toInt]
        omega
      have sc : ∀ (t : Int32) (v w : Int32), FX12_state t (hs (hs g 22 (4 * s + x).toNatClampNeg v) 23 (4 * s + x).toNatClampNeg w) = FX12_state t g := fun t v w => state_c (fun i => by simp [hs_get]) (fun i => by simp [hs_get]) (fun i => by simp [hs_get]) (fun i => by simp [hs_get]) (fun i => by simp [hs_get]) (fun i => by simp [hs_get]) (fun i => by simp [hs_get]) (fun i => by simp [hs_get]) (fun i => by simp [hs_get])
      have sc1 : ∀ (t : Int32) (v : Int32), FX12_state t (hs g 22 (4 * s + x).toNatClampNeg v) = FX12_state t g := fun t v => state_c (fun i => by simp [hs_get]) (fun i => by simp [hs_get]) (fun i => by simp [hs_get]) (fun i => by simp [hs_get]) (fun i => by simp [hs_get]) (fun i => by simp [hs_get]) (fun i => by simp [hs_get]) (fun i => by simp [hs_get]) (fun i => by simp [hs_get])
      rw [sc1]
      obtain ⟨a1, a2, a3, a4, a5⟩ := kp50 (th := th) q s (x + 1) (hs (hs g 22 (4 * s + x).toNatClampNeg (g 12 x.toNatClampNeg)) 23 (4 * s + x).toNatClampNeg (FX12_state x g)) f' (by rw [hs_o (by simp), hs_o (by simp)]; exact et) t0 t1 (by unfold iv; omega) (by omega)
      generalize FX12_keep_50 q s (x + 1) (hs (hs g 22 (4 * s + x).toNatClampNeg (g 12 x.toNatClampNeg)) 23 (4 * s + x).toNatClampNeg (FX12_state x g)) = G at *
      have o : ∀ k i, ¬ k = 22 → ¬ k = 23 → hs (hs g 22 (4 * s + x).toNatClampNeg (g 12 x.toNatClampNeg)) 23 (4 * s + x).toNatClampNeg (FX12_state x g) k i = g k i := fun k i q r => by rw [hs_o (fun w => r w.1), hs_o (fun w => q w.1)]
      refine ⟨fun t p r => ?_, fun j p => ?_, ?_, ?_, ?_⟩
      · have tn : (t.toNatClampNeg : Int) = t.toInt := by
          rw [← Int32.toNat_toInt]
          omega
        by_cases d : t.toInt = x.toInt
        · have dx : t = x := tI d
          subst dx
          have ii : 4 * s.toNatClampNeg + t.toNatClampNeg = (4 * s + t).toNatClampNeg := by omega
          obtain ⟨b1, b2⟩ := a2 (4 * s.toNatClampNeg + t.toNatClampNeg) (by omega)
          rw [b1, b2, ii, hs_o (by simp), hs_self, hs_self]
          exact ⟨rfl, rfl⟩
        · obtain ⟨b1, b2⟩ := a1 t (by omega) r
          rw [b1, b2, sc, o _ _ (by decide) (by decide)]
          exact ⟨rfl, rfl⟩
      · have n : ¬ j = (4 * s + x).toNatClampNeg := by omega
        obtain ⟨b1, b2⟩ := a2 j (by omega)
        rw [b1, b2]
        simp [hs_get, n]
      · refine ⟨a3.1.trans (o _ _ (by decide) (by decide)), fun j p => (a3.2 j p).trans (o _ _ (by decide) (by decide))⟩
      · refine ⟨fun i p => ?_, fun i p => ?_⟩
        · obtain ⟨b1, b2, b3⟩ := a4.1 i (by rw [o _ _ (by decide) (by decide)]; exact p)
          rw [b1, b2, b3, o _ _ (by decide) (by decide), o _ _ (by decide) (by decide), o _ _ (by decide) (by decide)]
          exact ⟨rfl, rfl, rfl⟩
        · rw [a4.2 i (by rw [o _ _ (by decide) (by decide)]; exact p), o _ _ (by decide) (by decide)]
      · intro j
        refine ⟨fun p => ?_, fun p => ?_⟩
        · obtain ⟨b1, b2, b3⟩ := (a5 j).1 p
          rw [b1, b2, b3, o _ _ (by decide) (by decide), o _ _ (by decide) (by decide), o _ _ (by decide) (by decide)]
          exact ⟨rfl, rfl, rfl⟩
        · rw [(a5 j).2 p, o _ _ (by decide) (by decide)]
/-- the loop over slots leads into the loop over THREADS -/
theorem kp2r : ∀ (q : Nat) (s x : Int32) (g : ph_H), iv 0 28 x → 28 - x.toInt < (q : Int) → ∃ g', FX12_keep_2 q s x g = FX12_keep_50 2000 s 0 g' ∧ ∀ k i, ¬ k = 20 → ¬ k = 21 → g' k i = g k i
  | 0, s, x, g, f, m => by unfold iv at f; omega
  | q + 1, s, x, g, f, m => by
    have k1 : (1 : Int32).toInt = 1 := by decide
    have k28 : (28 : Int32).toInt = 28 := by decide
    unfold iv at f
    unfold FX12_keep_2
    by_cases c : 28 ≤ x
    · rw [if_pos c]
      exact ⟨g, rfl, fun _ _ _ _ => rfl⟩
    · rw [if_neg c]
      rw [Int32.le_iff_toInt_le, k28] at c
      have e1 : (x + 1).toInt = x.toInt + 1 := by rw [ti_add (by omega) (by omega), k1]
      obtain ⟨g', a1, a2⟩ := kp2r q s (x + 1) (hs (hs g 20 (28 * s + x).toNatClampNeg (g 10 x.toNatClampNeg)) 21 (28 * s + x).toNatClampNeg (g 11 x.toNatClampNeg)) (by unfold iv; omega) (by omega)
      exact ⟨g', a1, fun k i q r => by rw [a2 k i q r, hs_o (fun w => r w.1), hs_o (fun w => q w.1)]⟩
theorem keep_KR {s : Int32} {g : ph_H} (f : iv 0 300 s) (t0 : 0 ≤ (g 0 18).toInt) (t1 : (g 0 18).toInt ≤ 12) : KR (FX12_keep s g) s.toNatClampNeg g ∧ ∀ (s' : Nat) (G : ph_H), (s' : Int) < s.toInt → (G 0 18).toInt ≤ 12 → KR g s' G → KR (FX12_keep s g) s' G := by
  have sn := iv_nat f rfl
  have k0 : (0 : Int32).toInt = 0 := by decide
  have f' := f
  unfold iv at f
  obtain ⟨a1, a2⟩ := kp2 2000 s 0 g f' ⟨by decide, by decide⟩ (by decide)
  obtain ⟨g', b1, b2⟩ := kp2r 2000 s 0 g ⟨by decide, by decide⟩ (by decide)
  have e18 := b2 0 18 (by decide) (by decide)
  obtain ⟨c1, c2, c3, c4, c5⟩ := kp50 (th := (g 0 18).toInt) 2000 s 0 g' f' (by rw [e18]) t0 t1 ⟨by decide, by decide⟩ (by decide)
  have st : ∀ t, FX12_state t g' = FX12_state t g := fun t => state_c (fun i => b2 _ i (by decide) (by decide)) (fun i => b2 _ i (by decide) (by decide)) (fun i => b2 _ i (by decide) (by decide)) (fun i => b2 _ i (by decide) (by decide)) (fun i => b2 _ i (by decide) (by decide)) (fun i => b2 _ i (by decide) (by decide)) (fun i => b2 _ i (by decide) (by decide)) (fun i => b2 _ i (by decide) (by decide)) (fun i => b2 _ i (by decide) (by decide))
  rw [← b1] at c1 c2 c3 c4 c5
  show KR (FX12_keep_2 2000 s 0 g) s.toNatClampNeg g ∧ ∀ (s' : Nat) (G : ph_H), (s' : Int) < s.toInt → (G 0 18).toInt ≤ 12 → KR g s' G → KR (FX12_keep_2 2000 s 0 g) s' G
  generalize FX12_keep_2 2000 s 0 g = X at *
  refine ⟨⟨fun k hk => a1 k (by omega) hk, fun t ht => ?_, ?_, ⟨fun x hx => ?_, fun i hi => ?_⟩⟩, fun s' G hs' hG K => ⟨fun k hk => ?_, fun t ht => ?_, ?_, ⟨fun x hx => ?_, fun i hi => ?_⟩⟩⟩
  · unfold iv at ht
    obtain ⟨d1, d2⟩ := c1 t (by omega) (by omega)
    rw [d1, d2, st, b2 _ _ (by decide) (by decide)]
    exact ⟨rfl, rfl⟩
  · rw [c3.1, e18]
  · obtain ⟨d1, d2, d3⟩ := c4.1 x (by rw [e18]; exact hx)
    rw [d1, d2, d3, b2 _ _ (by decide) (by decide), b2 _ _ (by decide) (by decide), b2 _ _ (by decide) (by decide)]
    exact ⟨rfl, rfl, rfl⟩
  · rw [c4.2 i (by rw [e18]; exact hi), b2 _ _ (by decide) (by decide)]
  · obtain ⟨d1, d2⟩ := a2 (28 * s' + k) (by omega)
    rw [d1, d2]
    exact K.1 k hk
  · have tn := iv_nat ht rfl
    have ht' := ht
    unfold iv at ht
    obtain ⟨d1, d2⟩ := c2 (4 * s' + t.toNatClampNeg) (by omega)
    rw [d1, d2, b2 _ _ (by decide) (by decide), b2 _ _ (by decide) (by decide)]
    exact K.2.1 t ht'
  · rw [c3.2 s' (by omega), b2 _ _ (by decide) (by decide)]
    exact K.2.2.1
  · obtain ⟨d1, d2, d3⟩ := (c5 (12 * s' + x)).1 (by omega)
    rw [d1, d2, d3, b2 _ _ (by decide) (by decide), b2 _ _ (by decide) (by decide), b2 _ _ (by decide) (by decide)]
    exact K.2.2.2.1 x hx
  · rw [(c5 (192 * s' + i)).2 (by omega), b2 _ _ (by decide) (by decide)]
    exact K.2.2.2.2 i hi
end MG_48_x10A9k
section MG_48_x11B0
/-! a step of a run: advance and stepKept -/
theorem step_rec {g : ph_H} {t : Int32} (na : ¬ asksU t g) : FX12_step t g 0 24 = g 0 24 + 1 ∧ FX12_step t g 0 26 = t ∧ FX12_step t g 0 27 = g 12 t.toNatClampNeg ∧ FX12_step t g 0 28 = g 2 ((24 * t) + g 12 t.toNatClampNeg).toNatClampNeg ∧ FX12_step t g 0 35 = g 0 35 := by
  have A : ∀ i G, FX12_step_148 t i G 0 24 = G 0 24 + 1 ∧ FX12_step_148 t i G 0 26 = t ∧ FX12_step_148 t i G 0 27 = G 0 27 ∧ FX12_step_148 t i G 0 28 = G 0 28 ∧ FX12_step_148 t i G 0 35 = G 0 35 := fun i G => by
    have e := frI_FX12_instruct (h0 := G) t i G (EQ_r G)
    unfold FX12_step_148 FX12_step_154
    simp only [hs_get]
    have e1 := e 0 24 rfl
    have e2 := e 0 27 rfl
    have e3 := e 0 28 rfl
    have e4 := e 0 35 rfl
    simp [e1, e2, e3, e4]
  unfold FX12_step FX12_step_110 FX12_step_154
  by_cases w : g 15 t.toNatClampNeg < 0
  · rw [if_pos w]
    by_cases o : g 2 ((24 * t) + g 12 t.toNatClampNeg).toNatClampNeg = 16
    · rw [if_pos o]
      by_cases k : g 0 33 = 0
      · rw [if_pos k]
        have := A ((24 * t) + g 12 t.toNatClampNeg) (hs (hs (hs (hs (hs (hs g 0 27 (g 12 t.toNatClampNeg)) 0 28 (g 2 ((24 * t) + g 12 t.toNatClampNeg).toNatClampNeg)) 0 29 (-2)) 0 30 (-2)) 0 31 0) 0 32 (-1))
        simpa [hs_get] using this
      · rw [if_neg k, if_neg (fun e => na ⟨w, o, k, e⟩)]
        have := A ((24 * t) + g 12 t.toNatClampNeg) (hs (hs (hs (hs (hs (hs g 0 27 (g 12 t.toNatClampNeg)) 0 28 (g 2 ((24 * t) + g 12 t.toNatClampNeg).toNatClampNeg)) 0 29 (-2)) 0 30 (-2)) 0 31 0) 0 32 (-1))
        simpa [hs_get] using this
    · rw [if_neg o]
      have := A ((24 * t) + g 12 t.toNatClampNeg) (hs (hs (hs (hs (hs (hs g 0 27 (g 12 t.toNatClampNeg)) 0 28 (g 2 ((24 * t) + g 12 t.toNatClampNeg).toNatClampNeg)) 0 29 (-2)) 0 30 (-2)) 0 31 0) 0 32 (-1))
      simpa [hs_get] using this
  · rw [if_neg w, goTo_eq]
    simp [hs_get]
theorem cg1_o (t : Int32) (g : ph_H) (k i : Nat) (h1 : ¬ k = 37) (h2 : ¬ k = 38) (h3 : ¬ (k = 0 ∧ i = 60)) : cg1 t g k i = g k i := by
  unfold cg1
  split
  · rfl
  · rw [hs_o h3, hs_o (fun w => h2 w.1), hs_o (fun w => h1 w.1)]
theorem cg1_IM {z : zT} {g : ph_H} {t : Int32} (I : IM z g) (ht : iv 0 3 t) (hch : (g 0 60).toInt ≤ (g 0 24).toInt) (ns : iv 0 299 (g 0 24)) : ∃ z', IM z' (cg1 t g) := by
  unfold cg1
  split
  · exact ⟨z, I⟩
  · have k1 : (1 : Int32).toInt = 1 := by decide
    have b : iv 0 300 (g 0 60) := IMv I 0 60
    unfold iv at b ns
    exact ⟨_, IMg (k := 0) (i := 60) (IMs (k := 38) (IMs (k := 37) I (iv_any _) rfl) (show iv 0 3 t from ht) rfl) (show iv 0 300 (g 0 60 + 1) from by
      unfold iv
      rw [ti_add (by omega) (by omega), k1]
      omega) rfl⟩
theorem kI_o (x : Int32) (g : ph_H) (k i : Nat) (h1 : ¬ k = 36) : kI x g k i = g k i := by
  unfold kI
  split
  · rfl
  · rw [hs_o (fun w => h1 w.1)]
theorem kW_o (t : Int32) (g : ph_H) (k i : Nat) (h1 : k < 29 ∨ 35 < k ∨ ¬ i = (g 0 24).toNatClampNeg) : kW t g k i = g k i := by
  unfold kW
  rw [hs_o (by omega), hs_o (by omega), hs_o (by omega), hs_o (by omega), hs_o (by omega), hs_o (by omega), hs_o (by omega)]
/-- what stepKept leaves: the machine as the step left it; the record one longer -/
theorem sk_o {g : ph_H} {t : Int32} (na : ¬ asksU t (cg1 t g)) (k i : Nat) (h1 : k < 20 ∨ 36 < k) : FX12_stepKept t g k i = FX12_step t (cg1 t g) k i := by
  rw [sk_eq]
  have e := frK_FX12_keep (h0 := kW t (kI (g 0 23) (FX12_step t (cg1 t g)))) (FX12_step t (cg1 t g) 0 24) _ (EQ_r _)
  have p : pK k i = true := by
    unfold pK
    split <;> first | omega | rfl
  rw [e k i p, kW_o _ _ _ _ (by omega), kI_o _ _ _ _ (by omega)]
theorem sk_r {g : ph_H} {t : Int32} (k i : Nat) (h1 : 28 < k) (h2 : k ≤ 35) : FX12_stepKept t g k i = kW t (kI (g 0 23) (FX12_step t (cg1 t g))) k i := by
  rw [sk_eq]
  have e := frK_FX12_keep (h0 := kW t (kI (g 0 23) (FX12_step t (cg1 t g)))) (FX12_step t (cg1 t g) 0 24) _ (EQ_r _)
  have p : pK k i = true := by
    unfold pK
    split <;> first | omega | rfl
  exact e k i p
theorem sk_k {g : ph_H} {t : Int32} (f : iv 0 300 (FX12_step t (cg1 t g) 0 24)) : (∀ k : Nat, k < 28 → FX12_stepKept t g 20 (28 * (FX12_step t (cg1 t g) 0 24).toNatClampNeg + k) = FX12_step t (cg1 t g) 10 k ∧ FX12_stepKept t g 21 (28 * (FX12_step t (cg1 t g) 0 24).toNatClampNeg + k) = FX12_step t (cg1 t g) 11 k) ∧ (∀ j : Nat, (j : Int) < 28 * (FX12_step t (cg1 t g) 0 24).toInt → FX12_stepKept t g 20 j = g 20 j ∧ FX12_stepKept t g 21 j = g 21 j) := by
  rw [sk_eq]
  unfold FX12_keep
  obtain ⟨a1, a2⟩ := kp2 2000 (FX12_step t (cg1 t g) 0 24) 0 (kW t (kI (g 0 23) (FX12_step t (cg1 t g)))) f ⟨by decide, by decide⟩ (by decide)
  have s := frS_FX12_step (h0 := cg1 t g) t (cg1 t g) (EQ_r _)
  have k0 : (0 : Int32).toInt = 0 := by decide
  refine ⟨fun k hk => ?_, fun j hj => ?_⟩
  · obtain ⟨b1, b2⟩ := a1 k (by omega) hk
    rw [b1, b2, kW_o _ _ _ _ (by omega), kI_o _ _ _ _ (by omega), kW_o _ _ _ _ (by omega), kI_o _ _ _ _ (by omega)]
    exact ⟨rfl, rfl⟩
  · obtain ⟨b1, b2⟩ := a2 j (by omega)
    rw [b1, b2, kW_o _ _ _ _ (by omega), kI_o _ _ _ _ (by omega), kW_o _ _ _ _ (by omega), kI_o _ _ _ _ (by omega), s 20 j rfl, s 21 j rfl, cg1_o _ _ _ _ (by omega) (by omega) (by omega), cg1_o _ _ _ _ (by omega) (by omega) (by omega)]
    exact ⟨rfl, rfl⟩
/-- the class's notes -/
theorem ne_o (H : ph_H) (k i : Nat) (h1 : k < 39 ∨ 44 < k ∨ ¬ i = (H 35 11).toNatClampNeg) : FX10_noteEffects_s H k i = H k i := by
  have a : ∀ H k i, (k < 43 ∨ 44 < k ∨ ¬ i = (H 35 11).toNatClampNeg) → FX10_noteEffects_s_68 H k i = H k i := fun H k i q => by
    unfold FX10_noteEffects_s_68
    rw [hs_o (by omega), hs_o (by omega)]
  unfold FX10_noteEffects_s
  repeat' split
  · rw [a _ _ _ (by simp only [hs_get]; simp; omega), hs_o (by omega), hs_o (by omega)]
  · rw [a _ _ _ (by simp only [hs_get]; simp; omega), hs_o (by omega), hs_o (by omega)]
  · rw [a _ _ _ (by simp only [hs_get]; simp; omega), hs_o (by omega), hs_o (by omega), hs_o (by omega), hs_o (by omega)]
theorem ne_at (H : ph_H) : FX10_noteEffects_s H 39 (H 35 11).toNatClampNeg = H 15 14 ∧ FX10_noteEffects_s H 40 (H 35 11).toNatClampNeg = H 15 15 ∧ FX10_noteEffects_s H 43 (H 35 11).toNatClampNeg = H 15 16 ∧ FX10_noteEffects_s H 44 (H 35 11).toNatClampNeg = H 15 17 ∧ (0 ≤ (H 15 15).toInt → (H 15 15).toInt < 12 → FX10_noteEffects_s H 41 (H 35 11).toNatClampNeg = H 16 (H 15 15).toNatClampNeg ∧ FX10_noteEffects_s H 42 (H 35 11).toNatClampNeg = H 17 (H 15 15).toNatClampNeg) := by
  have k0 : (0 : Int32).toInt = 0 := by decide
  have k12 : (12 : Int32).toInt = 12 := by decide
  unfold FX10_noteEffects_s FX10_noteEffects_s_68
  by_cases c : H 15 15 < 0
  · rw [if_pos c]
    rw [Int32.lt_iff_toInt_lt, k0] at c
    refine ⟨by simp [hs_get], by simp [hs_get], by simp [hs_get], by simp [hs_get], fun a b => by omega⟩
  · rw [if_neg c]
    by_cases d : 12 ≤ H 15 15
    · rw [if_pos d]
      rw [Int32.le_iff_toInt_le, k12] at d
      refine ⟨by simp [hs_get], by simp [hs_get], by simp [hs_get], by simp [hs_get], fun a b => by omega⟩
    · rw [if_neg d]
      refine ⟨by simp [hs_get], by simp [hs_get], by simp [hs_get], by simp [hs_get], fun a b => by simp [hs_get]⟩
theorem opOf_hs {t a : Int32} {h h' : ph_H} (e9 : ∀ i, h' 9 i = h 9 i) (e10 : ∀ i, h' 10 i = h 10 i) : FX5_opOf_t t a h' = FX5_opOf_t t a h := by
  unfold FX5_opOf_t FX5_has_t FX5_firstPart_t
  rw [e9, e10]
theorem next_eq {z : zT} {h g : ph_H} {t : Int32} (R : RC h g) (I : IM z g) (ht : iv 0 3 t) : FX3_nextInstruction_s t h = g 12 t.toNatClampNeg := by
  unfold FX3_nextInstruction_s
  rw [ended_eq R I ht]
  by_cases e : g 12 t.toNatClampNeg = 24
  · rw [if_pos e, if_neg (by decide), e]
  · rw [if_neg e, if_pos rfl]
    exact (stands R I ht e).1
theorem op_eq {z : zT} {h g : ph_H} {t : Int32} (R : RC h g) (I : IM z g) (ht : iv 0 3 t) (e : ¬ g 12 t.toNatClampNeg = 24) : FX5_opOf_t t (g 12 t.toNatClampNeg) h = g 2 ((24 * t) + g 12 t.toNatClampNeg).toNatClampNeg := by
  obtain ⟨s1, s2⟩ := stands R I ht e
  have p := (parts R I ht e).1
  have f := R.2.1 _ (t_lt ht)
  have k := nrm_id (many_iv I t.toNatClampNeg) (a := h 18 t.toNatClampNeg) (by rw [f]; exact e)
  have k24 : (24 : Int32).toInt = 24 := by decide
  unfold iv at s2
  have a1 := nn_t s2.1
  have a2 : ¬ 24 ≤ h 18 t.toNatClampNeg := by rw [Int32.le_iff_toInt_le, k24]; omega
  have a3 : ¬ g 1 t.toNatClampNeg ≤ h 18 t.toNatClampNeg := by rw [Int32.le_iff_toInt_le]; omega
  have a4 := R.2.2.2.2.2.1.1 _ (t_lt ht)
  rw [← p, ← s1]
  unfold FX5_opOf_t FX5_has_t
  rw [a4]
  simp (decide := true) only [a1, a2, a3, ↓reduceIte]
theorem fl_n {G : ph_H} (w : FL G) : ¬ G 0 25 = -1 := fun e => by
  have := w.1
  rw [e] at this
  exact absurd this (by decide)
/-- ADVANCE: the record grows on both sides alike -/
theorem adv_eq {z : zT} {h g : ph_H} {t : Int32} (R : RC h g) (T : TR h g) (I : IM z g) (ht : iv 0 3 t) (c : ¬ FX12_canGo t g = 0) (nf : g 0 25 = 0) (nk : g 0 33 = 0) (ns : iv 0 299 (g 0 24)) (hch : (g 0 60).toInt ≤ (g 0 24).toInt) :
    (FX10_advance_s t h).1 = 1 ∧ RC (FX10_advance_s t h).2 (FX12_stepKept t g) ∧ TR (FX10_advance_s t h).2 (FX12_stepKept t g) ∧ 0 ≤ (FX12_stepKept t g 0 25).toInt := by
  obtain ⟨t1, t2, t3, t4, t5, t6⟩ := T
  have k1 : (1 : Int32).toInt = 1 := by decide
  have k0 : (0 : Int32).toInt = 0 := by decide
  have k300 : (300 : Int32).toInt = 300 := by decide
  have sn := iv_nat ns rfl
  have ns' := ns
  unfold iv at ns
  have es : (g 0 24 + 1).toInt = (g 0 24).toInt + 1 := by rw [ti_add (by omega) (by omega), k1]
  have en : (g 0 24 + 1).toNatClampNeg = (g 0 24).toNatClampNeg + 1 := by
    have : ((g 0 24 + 1).toNatClampNeg : Int) = (g 0 24).toInt + 1 := by
      rw [← Int32.toNat_toInt]
      omega
    omega
  have cb : iv 0 300 (g 0 60) := IMv I 0 60
  have cn := iv_nat cb rfl
  unfold iv at cb
  have ec : (g 0 60 + 1).toInt = (g 0 60).toInt + 1 := by rw [ti_add (by omega) (by omega), k1]
  obtain ⟨z1, I1⟩ := cg1_IM (t := t) I ht hch ns'
  have co := cg1_o t g
  have R1 : RC h (cg1 t g) := R.congr (fun _ _ _ => rfl) (fun k i q => co k i (fun e => by rw [e] at q; exact absurd q (by simp [rM])) (fun e => by rw [e] at q; exact absurd q (by simp [rM])) (fun e => by rw [e.1, e.2] at q; exact absurd q (by decide))) (fun n => absurd nk n)
  have c1 : ¬ FX12_canGo t (cg1 t g) = 0 := by
    rw [← canGo_eq R1 I1 ht, canGo_eq R I ht]
    exact c
  have nf1 : cg1 t g 0 25 = 0 := by rw [co _ _ (by decide) (by decide) (by decide)]; exact nf
  have nk1 : cg1 t g 0 33 = 0 := by rw [co _ _ (by decide) (by decide) (by decide)]; exact nk
  have na : ¬ asksU t (cg1 t g) := fun a => a.2.2.1 nk1
  obtain ⟨w1, w2, w3, w4⟩ := go_eq R1 I1 ht c1 nf1 na
  obtain ⟨x24, x26, x27, x28, x35⟩ := step_rec na
  rw [co _ _ (by decide) (by decide) (by decide)] at x24
  rw [co _ _ (by decide) (by decide) (by omega)] at x27
  rw [co 12 _ (by decide) (by decide) (by omega), co 2 _ (by decide) (by decide) (by omega)] at x28
  obtain ⟨_, c12, _⟩ := cg_true c
  have fs := frS_FX12_step (h0 := cg1 t g) t (cg1 t g) (EQ_r _)
  have fg := frG_FX3_go_s (h0 := h) t h (EQ_r _)
  generalize hG2 : FX12_step t (cg1 t g) = G2 at *
  generalize hH1 : FX3_go_s t h = r at *
  have so : ∀ k i, (k < 20 ∨ 36 < k) → FX12_stepKept t g k i = G2 k i := fun k i q => by rw [sk_o na k i q, hG2]
  have sr : ∀ k i, 28 < k → k ≤ 35 → FX12_stepKept t g k i = kW t (kI (g 0 23) G2) k i := fun k i a b => by rw [sk_r k i a b, hG2]
  have sk := sk_k (g := g) (t := t) (by rw [hG2, x24]; unfold iv; omega)
  rw [hG2, x24, en] at sk
  obtain ⟨skA, skB⟩ := sk
  generalize hG : FX12_stepKept t g = G at *
  have lat : FX10_latestThread (hs r.2 35 14 r.1) = g 0 26 := by
    rw [← t6]
    unfold FX10_latestThread
    rw [hs_o (by simp), hs_o (by simp), fg 35 11 rfl, fg 36 _ rfl]
  have nI := next_eq R I ht
  have oE := op_eq R I ht c12
  have adv : FX10_advance_s t h = FX10_advance_s_51 t (g 12 t.toNatClampNeg) (FX10_noteChange t (hs r.2 35 14 r.1)) := by
    unfold FX10_advance_s FX10_advance_s_30
    rw [t3, if_pos nf, t1, if_pos (by rw [Int32.lt_iff_toInt_lt, k300]; omega), hH1, if_neg (by rw [w1]; exact fl_n w4), nI]
  rw [adv]
  unfold FX10_advance_s_51
  have N : ∀ k i, ¬ k = 45 → ¬ k = 46 → ¬ (k = 35 ∧ i = 12) → ¬ (k = 35 ∧ i = 14) → FX10_noteChange t (hs r.2 35 14 r.1) k i = r.2 k i := fun k i a b d e => by
    unfold FX10_noteChange
    split
    · rw [hs_o e]
    · rw [hs_o d, hs_o (fun w => b w.1), hs_o (fun w => a w.1), hs_o e]
  have N14 : FX10_noteChange t (hs r.2 35 14 r.1) 35 14 = r.1 := by
    unfold FX10_noteChange
    split
    · rw [hs_self]
    · rw [hs_o (by simp), hs_o (by simp), hs_o (by simp), hs_self]
  have e12 : hs r.2 35 14 r.1 35 12 = g 0 60 := by rw [hs_o (by simp), fg 35 12 rfl]; exact t2
  have e11 : hs r.2 35 14 r.1 35 11 = g 0 24 := by rw [hs_o (by simp), fg 35 11 rfl]; exact t1
  have N12 : FX10_noteChange t (hs r.2 35 14 r.1) 35 12 = cg1 t g 0 60 := by
    unfold FX10_noteChange cg1
    rw [lat]
    by_cases q : t = g 0 26
    · rw [if_pos q, if_pos q]
      exact e12
    · rw [if_neg q, if_neg q, hs_self, hs_self, e12]
  have NC : ∀ i : Nat, (i : Int) < (cg1 t g 0 60).toInt → FX10_noteChange t (hs r.2 35 14 r.1) 45 i = cg1 t g 37 i ∧ FX10_noteChange t (hs r.2 35 14 r.1) 46 i = cg1 t g 38 i := fun i hi => by
    unfold FX10_noteChange cg1
    unfold cg1 at hi
    rw [lat]
    by_cases q : t = g 0 26
    · rw [if_pos q] at hi
      rw [if_pos q, if_pos q, hs_o (by simp), hs_o (by simp), fg 45 i rfl, fg 46 i rfl]
      exact t5 i hi
    · rw [if_neg q, hs_self] at hi
      rw [if_neg q, if_neg q, e12, e11]
      by_cases d : i = (g 0 60).toNatClampNeg
      · subst d
        simp [hs_get]
      · have := t5 i (by omega)
        simp only [hs_get]
        simp [d, fg 45 i rfl, fg 46 i rfl, this]
  generalize hN : FX10_noteChange t (hs r.2 35 14 r.1) = h2 at *
  have h11 : h2 35 11 = g 0 24 := by rw [N _ _ (by decide) (by decide) (by decide) (by decide), fg 35 11 rfl]; exact t1
  rw [h11]
  have oo : FX5_opOf_t t (g 12 t.toNatClampNeg) (hs (hs (hs h2 35 11 (g 0 24 + 1)) 36 (g 0 24 + 1).toNatClampNeg t) 37 (g 0 24 + 1).toNatClampNeg (g 12 t.toNatClampNeg)) = g 2 ((24 * t) + g 12 t.toNatClampNeg).toNatClampNeg := by
    rw [← oE]
    apply opOf_hs
    · intro i
      rw [hs_o (by simp), hs_o (by simp), hs_o (by simp), N _ _ (by decide) (by decide) (by simp) (by simp), fg 9 i rfl]
    · intro i
      rw [hs_o (by simp), hs_o (by simp), hs_o (by simp), N _ _ (by decide) (by decide) (by simp) (by simp), fg 10 i rfl]
  rw [oo, en]
  generalize hX0 : hs (hs (hs (hs h2 35 11 (g 0 24 + 1)) 36 ((g 0 24).toNatClampNeg + 1) t) 37 ((g 0 24).toNatClampNeg + 1) (g 12 t.toNatClampNeg)) 38 ((g 0 24).toNatClampNeg + 1) (g 2 ((24 * t) + g 12 t.toNatClampNeg).toNatClampNeg) = X0
  have X11 : X0 35 11 = g 0 24 + 1 := by rw [← hX0, hs_o (by simp), hs_o (by simp), hs_o (by simp), hs_self]
  have X0o : ∀ k i, ¬ (k = 35 ∧ i = 11) → (k < 36 ∨ 38 < k ∨ ¬ i = (g 0 24).toNatClampNeg + 1) → X0 k i = h2 k i := fun k i a b => by
    rw [← hX0, hs_o (by omega), hs_o (by omega), hs_o (by omega), hs_o a]
  have no := ne_o X0
  have na' := ne_at X0
  rw [X11, en] at no na'
  generalize hX : FX10_noteEffects_s X0 = X at *
  show (1 : Int32) = 1 ∧ RC X G ∧ TR X G ∧ 0 ≤ (G 0 25).toInt
  have Xm : ∀ k i, (15 ≤ k ∧ k ≤ 24 ∨ k < 15) → X k i = r.2 k i := fun k i q => by
    rw [no k i (by omega), X0o k i (by omega) (by omega), N k i (by omega) (by omega) (by omega) (by omega)]
  have g0e : ∀ i, G 0 i = G2 0 i := fun i => so 0 i (by omega)
  have x60 : G2 0 60 = cg1 t g 0 60 := fs 0 60 rfl
  have gN : ∀ k i, (k < 20 ∨ 36 < k) → G k i = G2 k i := so
  refine ⟨rfl, w2.congr (fun k i q => Xm k i ?_) (fun k i q => gN k i ?_) (fun n => absurd ?_ n), ?_, by rw [g0e]; exact w4.1⟩
  · unfold cM at q
    split at q <;> first | omega | (exact absurd q (by decide))
  · unfold rM at q
    split at q <;> first | omega | (exact absurd q (by decide))
  · rw [fs 0 33 rfl]
    exact nk1
  have kwv : ∀ k i, (k < 29 ∨ 35 < k ∨ ¬ i = (g 0 24).toNatClampNeg + 1) → ¬ k = 36 → kW t (kI (g 0 23) G2) k i = G2 k i := fun k i q n => by
    rw [kW_o _ _ _ _ (by rw [kI_o _ _ _ _ (by decide), x24, en]; exact q), kI_o _ _ _ _ n]
  have kwa : ∀ k, 29 ≤ k → k ≤ 35 → kW t (kI (g 0 23) G2) k ((g 0 24).toNatClampNeg + 1) = if k = 29 then t else if k = 30 then G2 0 27 else if k = 31 then G2 0 28 else if k = 32 then (if G2 0 25 ≤ 0 then G2 0 29 else -2) else if k = 33 then (if G2 0 25 ≤ 0 then G2 0 30 else -2) else if k = 34 then (if G2 0 25 ≤ 0 then G2 0 31 else 0) else G2 0 32 := fun k a b => by
    unfold kW
    rw [kI_o _ _ 0 24 (by decide), kI_o _ _ 0 25 (by decide), kI_o _ _ 0 27 (by decide), kI_o _ _ 0 28 (by decide), kI_o _ _ 0 29 (by decide), kI_o _ _ 0 30 (by decide), kI_o _ _ 0 31 (by decide), kI_o _ _ 0 32 (by decide), x24, en]
    have hk : k = 29 ∨ k = 30 ∨ k = 31 ∨ k = 32 ∨ k = 33 ∨ k = 34 ∨ k = 35 := by omega
    rcases hk with rfl | rfl | rfl | rfl | rfl | rfl | rfl <;> simp [hs_get]
  obtain ⟨ef1, ef2, ef3, ef4⟩ := w3
  have SS : ∀ s : Nat, ¬ s = (g 0 24).toNatClampNeg + 1 → (s : Int) ≤ (g 0 24).toInt → ∀ k, 29 ≤ k → k ≤ 35 → G k s = g k s := fun s a b k p q => by
    rw [sr k s (by omega) q, kwv k s (by omega) (by omega), fs k s (by unfold pS; split <;> first | omega | rfl), co k s (by omega) (by omega) (by omega)]
  have XX : ∀ s : Nat, ¬ s = (g 0 24).toNatClampNeg + 1 → ∀ k, 36 ≤ k → k ≤ 44 → X k s = h k s := fun s a k p q => by
    rw [no k s (by omega), X0o k s (by omega) (by omega), N k s (by omega) (by omega) (by omega) (by omega), fg k s (by unfold pG; split <;> first | omega | rfl)]
  refine ⟨?_, ?_, ?_, ?_, ?_, ?_⟩
  · rw [no 35 11 (by omega), X11, g0e, x24]
  · rw [no 35 12 (by omega), X0o 35 12 (by omega) (by omega), N12, g0e, x60]
  · rw [no 35 14 (by omega), X0o 35 14 (by omega) (by omega), N14, w1, g0e]
  · intro s s0 sl
    rw [g0e, x24, es] at sl
    by_cases d : s = (g 0 24).toNatClampNeg + 1
    · subst d
      have v : ∀ k, 29 ≤ k → k ≤ 35 → G k ((g 0 24).toNatClampNeg + 1) = _ := fun k a b => (sr k _ (by omega) b).trans (kwa k a b)
      have v29 := v 29 (by omega) (by omega)
      have v30 := v 30 (by omega) (by omega)
      have v31 := v 31 (by omega) (by omega)
      have v32 := v 32 (by omega) (by omega)
      have v33 := v 33 (by omega) (by omega)
      have v34 := v 34 (by omega) (by omega)
      have v35 := v 35 (by omega) (by omega)
      simp only [if_true, Nat.reduceEqDiff, if_false] at v29 v30 v31 v32 v33 v34 v35
      have m14 : X0 15 14 = G2 0 29 := by rw [X0o _ _ (by omega) (by omega), N _ _ (by omega) (by omega) (by omega) (by omega)]; exact ef1
      have m15 : X0 15 15 = G2 0 30 := by rw [X0o _ _ (by omega) (by omega), N _ _ (by omega) (by omega) (by omega) (by omega)]; exact ef2
      have m16 : X0 15 16 = G2 0 31 := by rw [X0o _ _ (by omega) (by omega), N _ _ (by omega) (by omega) (by omega) (by omega)]; exact ef3
      have m17 : X0 15 17 = r.2 15 17 := by rw [X0o _ _ (by omega) (by omega), N _ _ (by omega) (by omega) (by omega) (by omega)]
      obtain ⟨n1, n2, n3, n4, n5⟩ := na'
      rw [m14] at n1
      rw [m15] at n2 n5
      rw [m16] at n3
      rw [m17] at n4
      have ff : ¬ G2 0 25 ≤ 0 → G2 0 29 = -2 ∧ G2 0 30 = -2 ∧ G2 0 31 = 0 := fun f => w4.2.1 (fun e => f (by rw [e]; decide))
      have g32 : G 32 ((g 0 24).toNatClampNeg + 1) = G2 0 29 := by
        rw [v32]
        by_cases f : G2 0 25 ≤ 0
        · rw [if_pos f]
        · rw [if_neg f, (ff f).1]
      have g33 : G 33 ((g 0 24).toNatClampNeg + 1) = G2 0 30 := by
        rw [v33]
        by_cases f : G2 0 25 ≤ 0
        · rw [if_pos f]
        · rw [if_neg f, (ff f).2.1]
      have g34 : G 34 ((g 0 24).toNatClampNeg + 1) = G2 0 31 := by
        rw [v34]
        by_cases f : G2 0 25 ≤ 0
        · rw [if_pos f]
        · rw [if_neg f, (ff f).2.2]
      refine ⟨?_, ?_, ?_, ?_, ?_, ?_, ?_, ?_, by rw [g32]; exact w4.2.2.1, by rw [g33]; exact w4.2.2.2⟩
      · rw [no 36 _ (by omega), v29, ← hX0, hs_o (by simp), hs_o (by simp), hs_self]
      · rw [no 37 _ (by omega), v30, x27, ← hX0, hs_o (by simp), hs_self]
      · rw [no 38 _ (by omega), v31, x28, ← hX0, hs_self]
      · rw [n1, g32]
      · rw [n2, g33]
      · rw [n3, g34]
      · rw [g34, v35, n4]
        exact ef4
      · rw [g33]
        intro a b
        obtain ⟨b1, b2⟩ := n5 a b
        have wl : (G2 0 30).toNatClampNeg < 28 := by
          have : ((G2 0 30).toNatClampNeg : Int) = (G2 0 30).toInt := by
            rw [← Int32.toNat_toInt]
            omega
          omega
        obtain ⟨q1, q2⟩ := skA _ wl
        obtain ⟨r1, r2⟩ := w2.1 _ wl
        rw [b1, b2, q1, q2, X0o _ _ (by omega) (by omega), X0o _ _ (by omega) (by omega), N _ _ (by omega) (by omega) (by omega) (by omega), N _ _ (by omega) (by omega) (by omega) (by omega)]
        exact ⟨r1, r2⟩
    · have sl2 : (s : Int) ≤ (g 0 24).toInt := by omega
      obtain ⟨u1, u2, u3, u4, u5, u6, u7, u8, u9, u10⟩ := t4 s s0 sl2
      have s29 := SS s d sl2
      have x36 := XX s d
      unfold TRs
      rw [s29 29 (by omega) (by omega), s29 30 (by omega) (by omega), s29 31 (by omega) (by omega), s29 32 (by omega) (by omega), s29 33 (by omega) (by omega), s29 34 (by omega) (by omega), s29 35 (by omega) (by omega), x36 36 (by omega) (by omega), x36 37 (by omega) (by omega), x36 38 (by omega) (by omega), x36 39 (by omega) (by omega), x36 40 (by omega) (by omega), x36 41 (by omega) (by omega), x36 42 (by omega) (by omega), x36 43 (by omega) (by omega), x36 44 (by omega) (by omega)]
      refine ⟨u1, u2, u3, u4, u5, u6, u7, fun a b => ?_, u9, u10⟩
      have wl : (g 33 s).toNatClampNeg < 12 := by
        have : ((g 33 s).toNatClampNeg : Int) = (g 33 s).toInt := by
          rw [← Int32.toNat_toInt]
          omega
        omega
      obtain ⟨q1, q2⟩ := skB (28 * s + (g 33 s).toNatClampNeg) (by rw [es]; omega)
      rw [q1, q2]
      exact u8 a b
  · intro i hi
    rw [g0e, x60] at hi
    rw [gN 37 i (by omega), gN 38 i (by omega), fs 37 i rfl, fs 38 i rfl, no 45 i (by omega), no 46 i (by omega), X0o 45 i (by omega) (by omega), X0o 46 i (by omega) (by omega)]
    exact NC i hi
  · unfold FX10_latestThread
    rw [no 35 11 (by omega), X11, if_neg (by rw [Int32.le_iff_toInt_le, k0]; omega), if_neg (by rw [Int32.lt_iff_toInt_lt, k300]; omega), g0e, x26, en, no 36 _ (by omega), ← hX0, hs_o (by simp), hs_o (by simp), hs_self]
end MG_48_x11B0
section MG_48_x12B1
/-! BEGIN on both sides -/
theorem hc_at (h : ph_H) (k0 k1 : Nat) (m : Int32) (i : Nat) : hc h k0 k1 0 0 m k1 i = if i < m.toNatClampNeg then h k0 i else h k1 i := by
  have z : (0 : Int32).toNatClampNeg = 0 := by decide
  unfold hc
  rw [va_up_self, z]
  unfold va_cpy
  by_cases c : i < m.toNatClampNeg
  · simp [c]
  · simp [c]
theorem fill_16 : ∀ (q : Nat) (v x n : Int32) (h : ph_H), 0 ≤ x.toInt → x.toInt ≤ n.toInt → n.toInt ≤ 1000 → n.toInt - x.toInt < (q : Int) → (∀ k i, ¬ k = 16 → FJ7_fill_53178_k16_5 q v x n h k i = h k i) ∧ (∀ i : Nat, x.toInt ≤ i → (i : Int) < n.toInt → FJ7_fill_53178_k16_5 q v x n h 16 i = v) ∧ (∀ i : Nat, (i : Int) < x.toInt → FJ7_fill_53178_k16_5 q v x n h 16 i = h 16 i)
  | 0, v, x, n, h, a, b, c, m => by omega
  | q + 1, v, x, n, h, a, b, c, m => by
    have k1 : (1 : Int32).toInt = 1 := by decide
    unfold FJ7_fill_53178_k16_5
    by_cases d : n ≤ x
    · rw [if_pos d]
      rw [Int32.le_iff_toInt_le] at d
      exact ⟨fun _ _ _ => rfl, fun i e f => by omega, fun _ _ => rfl⟩
    · rw [if_neg d]
      rw [Int32.le_iff_toInt_le] at d
      have e1 : (x + 1).toInt = x.toInt + 1 := by rw [ti_add (by omega) (by omega), k1]
      have xn : (x.toNatClampNeg : Int) = x.toInt := by
        rw [← Int32.toNat_toInt]
        omega
      obtain ⟨a1, a2, a3⟩ := fill_16 q v (x + 1) n (hs h 16 x.toNatClampNeg v) (by omega) (by omega) c (by omega)
      refine ⟨fun k i e => ?_, fun i e f => ?_, fun i e => ?_⟩
      · rw [a1 k i e, hs_o (fun w => e w.1)]
      · by_cases g : (i : Int) = x.toInt
        · rw [a3 i (by omega), hs_get, if_pos rfl, if_pos (by omega)]
        · exact a2 i (by omega) f
      · rw [a3 i (by omega), hs_o (fun w => by omega)]
theorem fill_17 : ∀ (q : Nat) (v x n : Int32) (h : ph_H), 0 ≤ x.toInt → x.toInt ≤ n.toInt → n.toInt ≤ 1000 → n.toInt - x.toInt < (q : Int) → (∀ k i, ¬ k = 17 → FJ7_fill_53178_k17_5 q v x n h k i = h k i) ∧ (∀ i : Nat, x.toInt ≤ i → (i : Int) < n.toInt → FJ7_fill_53178_k17_5 q v x n h 17 i = v) ∧ (∀ i : Nat, (i : Int) < x.toInt → FJ7_fill_53178_k17_5 q v x n h 17 i = h 17 i)
  | 0, v, x, n, h, a, b, c, m => by omega
  | q + 1, v, x, n, h, a, b, c, m => by
    have k1 : (1 : Int32).toInt = 1 := by decide
    unfold FJ7_fill_53178_k17_5
    by_cases d : n ≤ x
    · rw [if_pos d]
      rw [Int32.le_iff_toInt_le] at d
      exact ⟨fun _ _ _ => rfl, fun i e f => by omega, fun _ _ => rfl⟩
    · rw [if_neg d]
      rw [Int32.le_iff_toInt_le] at d
      have e1 : (x + 1).toInt = x.toInt + 1 := by rw [ti_add (by omega) (by omega), k1]
      have xn : (x.toNatClampNeg : Int) = x.toInt := by
        rw [← Int32.toNat_toInt]
        omega
      obtain ⟨a1, a2, a3⟩ := fill_17 q v (x + 1) n (hs h 17 x.toNatClampNeg v) (by omega) (by omega) c (by omega)
      refine ⟨fun k i e => ?_, fun i e f => ?_, fun i e => ?_⟩
      · rw [a1 k i e, hs_o (fun w => e w.1)]
      · by_cases g : (i : Int) = x.toInt
        · rw [a3 i (by omega), hs_get, if_pos rfl, if_pos (by omega)]
        · exact a2 i (by omega) f
      · rw [a3 i (by omega), hs_o (fun w => by omega)]
theorem fill_18 : ∀ (q : Nat) (v x n : Int32) (h : ph_H), 0 ≤ x.toInt → x.toInt ≤ n.toInt → n.toInt ≤ 1000 → n.toInt - x.toInt < (q : Int) → (∀ k i, ¬ k = 18 → FJ7_fill_53178_k18_5 q v x n h k i = h k i) ∧ (∀ i : Nat, x.toInt ≤ i → (i : Int) < n.toInt → FJ7_fill_53178_k18_5 q v x n h 18 i = v) ∧ (∀ i : Nat, (i : Int) < x.toInt → FJ7_fill_53178_k18_5 q v x n h 18 i = h 18 i)
  | 0, v, x, n, h, a, b, c, m => by omega
  | q + 1, v, x, n, h, a, b, c, m => by
    have k1 : (1 : Int32).toInt = 1 := by decide
    unfold FJ7_fill_53178_k18_5
    by_cases d : n ≤ x
    · rw [if_pos d]
      rw [Int32.le_iff_toInt_le] at d
      exact ⟨fun _ _ _ => rfl, fun i e f => by omega, fun _ _ => rfl⟩
    · rw [if_neg d]
      rw [Int32.le_iff_toInt_le] at d
      have e1 : (x + 1).toInt = x.toInt + 1 := by rw [ti_add (by omega) (by omega), k1]
      have xn : (x.toNatClampNeg : Int) = x.toInt := by
        rw [← Int32.toNat_toInt]
        omega
      obtain ⟨a1, a2, a3⟩ := fill_18 q v (x + 1) n (hs h 18 x.toNatClampNeg v) (by omega) (by omega) c (by omega)
      refine ⟨fun k i e => ?_, fun i e f => ?_, fun i e => ?_⟩
      · rw [a1 k i e, hs_o (fun w => e w.1)]
      · by_cases g : (i : Int) = x.toInt
        · rw [a3 i (by omega), hs_get, if_pos rfl, if_pos (by omega)]
        · exact a2 i (by omega) f
      · rw [a3 i (by omega), hs_o (fun w => by omega)]
theorem fill_19 : ∀ (q : Nat) (v x n : Int32) (h : ph_H), 0 ≤ x.toInt → x.toInt ≤ n.toInt → n.toInt ≤ 1000 → n.toInt - x.toInt < (q : Int) → (∀ k i, ¬ k = 19 → FJ7_fill_53178_k19_5 q v x n h k i = h k i) ∧ (∀ i : Nat, x.toInt ≤ i → (i : Int) < n.toInt → FJ7_fill_53178_k19_5 q v x n h 19 i = v) ∧ (∀ i : Nat, (i : Int) < x.toInt → FJ7_fill_53178_k19_5 q v x n h 19 i = h 19 i)
  | 0, v, x, n, h, a, b, c, m => by omega
  | q + 1, v, x, n, h, a, b, c, m => by
    have k1 : (1 : Int32).toInt = 1 := by decide
    unfold FJ7_fill_53178_k19_5
    by_cases d : n ≤ x
    · rw [if_pos d]
      rw [Int32.le_iff_toInt_le] at d
      exact ⟨fun _ _ _ => rfl, fun i e f => by omega, fun _ _ => rfl⟩
    · rw [if_neg d]
      rw [Int32.le_iff_toInt_le] at d
      have e1 : (x + 1).toInt = x.toInt + 1 := by rw [ti_add (by omega) (by omega), k1]
      have xn : (x.toNatClampNeg : Int) = x.toInt := by
        rw [← Int32.toNat_toInt]
        omega
      obtain ⟨a1, a2, a3⟩ := fill_19 q v (x + 1) n (hs h 19 x.toNatClampNeg v) (by omega) (by omega) c (by omega)
      refine ⟨fun k i e => ?_, fun i e f => ?_, fun i e => ?_⟩
      · rw [a1 k i e, hs_o (fun w => e w.1)]
      · by_cases g : (i : Int) = x.toInt
        · rw [a3 i (by omega), hs_get, if_pos rfl, if_pos (by omega)]
        · exact a2 i (by omega) f
      · rw [a3 i (by omega), hs_o (fun w => by omega)]
theorem cbeg (kv : Int32) (h : ph_H) : (∀ i, i < 28 → FX3_begin_st kv h 16 i = 0) ∧ (∀ i, i < 28 → FX3_begin_st kv h 17 i = if i < 12 then h 11 i else 0) ∧ (∀ t, t < 4 → FX3_begin_st kv h 18 t = 0) ∧ (∀ t, t < 4 → FX3_begin_st kv h 19 t = if t = 0 then 1 else 0) ∧ FX3_begin_st kv h 15 10 = 0 ∧ FX3_begin_st kv h 15 11 = kv ∧ FX3_begin_st kv h 15 12 = 0 ∧ (∀ k i, ¬ (15 ≤ k ∧ k ≤ 19) → FX3_begin_st kv h k i = h k i) := by
  have k28 : (28 : Int32).toInt = 28 := by decide
  have k4 : (4 : Int32).toInt = 4 := by decide
  have k0 : (0 : Int32).toInt = 0 := by decide
  have n0 : (0 : Int32).toNatClampNeg = 0 := by decide
  have n12 : (12 : Int32).toNatClampNeg = 12 := by decide
  unfold FX3_begin_st FX3_begin_st_13 FX3_begin_st_21 FX3_begin_st_44 FX3_begin_st_52 FJ7_fill_53178_k16 FJ7_fill_53178_k17 FJ7_fill_53178_k18 FJ7_fill_53178_k19
  obtain ⟨a1, a2, -⟩ := fill_16 2000 0 0 28 h (by decide) (by decide) (by decide) (by decide)
  generalize FJ7_fill_53178_k16_5 2000 0 0 28 h = h1 at *
  obtain ⟨b1, b2, -⟩ := fill_17 2000 0 0 28 h1 (by decide) (by decide) (by decide) (by decide)
  generalize FJ7_fill_53178_k17_5 2000 0 0 28 h1 = h2 at *
  have c0 : ∀ k i, ¬ k = 17 → hc h2 11 17 0 0 12 k i = h2 k i := fun k i e => hc_o e
  have c1 : ∀ i, hc h2 11 17 0 0 12 17 i = if i < 12 then h2 11 i else h2 17 i := fun i => by
    rw [hc_at, n12]
  generalize hc h2 11 17 0 0 12 = h3 at *
  obtain ⟨d1, d2, -⟩ := fill_18 2000 0 0 4 h3 (by decide) (by decide) (by decide) (by decide)
  generalize FJ7_fill_53178_k18_5 2000 0 0 4 h3 = h4 at *
  obtain ⟨e1, e2, -⟩ := fill_19 2000 0 0 4 h4 (by decide) (by decide) (by decide) (by decide)
  generalize FJ7_fill_53178_k19_5 2000 0 0 4 h4 = h5 at *
  rw [n0]
  refine ⟨fun i hi => ?_, fun i hi => ?_, fun t ht => ?_, fun t ht => ?_, ?_, ?_, ?_, fun k i q => ?_⟩
  · rw [hs_o (by simp), hs_o (by simp), hs_o (by simp), hs_o (by simp), e1 _ _ (by decide), d1 _ _ (by decide), c0 _ _ (by decide), b1 _ _ (by decide), a2 i (by omega) (by omega)]
  · rw [hs_o (by simp), hs_o (by simp), hs_o (by simp), hs_o (by simp), e1 _ _ (by decide), d1 _ _ (by decide), c1 i, b1 _ _ (by decide), a1 _ _ (by decide), b2 i (by omega) (by omega)]
  · rw [hs_o (by simp), hs_o (by simp), hs_o (by simp), hs_o (by simp), e1 _ _ (by decide), d2 t (by omega) (by omega)]
  · rw [hs_o (by simp), hs_o (by simp), hs_o (by simp), hs_get, if_pos rfl]
    by_cases c : t = 0
    · rw [if_pos c, if_pos c]
    · rw [if_neg c, if_neg c, e2 t (by omega) (by omega)]
  · rw [hs_o (by simp), hs_o (by simp), hs_self]
  · rw [hs_o (by simp), hs_self]
  · rw [hs_self]
  · rw [hs_o (by omega), hs_o (by omega), hs_o (by omega), hs_o (by omega), e1 _ _ (by omega), d1 _ _ (by omega), c0 _ _ (by omega), b1 _ _ (by omega), a1 _ _ (by omega)]
theorem rb45 : ∀ (q : Nat) (x : Int32) (g : ph_H), iv 0 4 x → 4 - x.toInt < (q : Int) → (∀ t : Nat, x.toInt ≤ t → t < 4 → FX12_begin_45 q x g 12 t = (if g 1 t ≤ 0 then 24 else 0) ∧ FX12_begin_45 q x g 13 t = (if t = 0 then 1 else 0) ∧ FX12_begin_45 q x g 14 t = -1 ∧ FX12_begin_45 q x g 15 t = -1) ∧ (∀ t : Nat, (t : Int) < x.toInt → FX12_begin_45 q x g 12 t = g 12 t ∧ FX12_begin_45 q x g 13 t = g 13 t ∧ FX12_begin_45 q x g 14 t = g 14 t ∧ FX12_begin_45 q x g 15 t = g 15 t) ∧ (∀ k i, ¬ k = 0 → ¬ (12 ≤ k ∧ k ≤ 15) → FX12_begin_45 q x g k i = g k i) ∧ (∀ i, FX12_begin_45 q x g 0 i = if i = 18 ∨ i = 23 ∨ i = 24 ∨ i = 25 ∨ i = 26 ∨ i = 35 then 0 else g 0 i)
  | 0, x, g, f, m => by unfold iv at f; omega
  | q + 1, x, g, f, m => by
    have k1 : (1 : Int32).toInt = 1 := by decide
    have k4 : (4 : Int32).toInt = 4 := by decide
    have k0 : (0 : Int32).toInt = 0 := by decide
    have xn := iv_nat f rfl
    unfold iv at f
    have v1 : vp_nar .boolean 1 = 1 := rfl
    have v0 : vp_nar .boolean 0 = 0 := rfl
    unfold FX12_begin_45 FX12_begin_70 FX12_begin_85
    by_cases c : 4 ≤ x
    · rw [if_pos c]
      rw [Int32.le_iff_toInt_le, k4] at c
      refine ⟨fun t a b => by omega, fun t a => ⟨by simp [hs_get], by simp [hs_get], by simp [hs_get], by simp [hs_get]⟩, fun k i a b => by simp [hs_get, a], fun i => ?_⟩
      simp only [hs_get, if_true]
      by_cases c1 : i = 35
      · simp [c1]
      · by_cases c2 : i = 26
        · simp [c2]
        · by_cases c3 : i = 25
          · simp [c3]
          · by_cases c4 : i = 24
            · simp [c4]
            · by_cases c5 : i = 23
              · simp [c5]
              · simp [c1, c2, c3, c4, c5]
    · rw [if_neg c]
      rw [Int32.le_iff_toInt_le, k4] at c
      have e1 : (x + 1).toInt = x.toInt + 1 := by rw [ti_add (by omega) (by omega), k1]

      have fin : ∀ (s a : Int32), s = (if g 1 x.toNatClampNeg ≤ 0 then 24 else 0) → a = (if x = 0 then 1 else 0) → (∀ t : Nat, x.toInt ≤ t → t < 4 → FX12_begin_45 q (x + 1) (hs (hs (hs (hs g 12 x.toNatClampNeg s) 13 x.toNatClampNeg (vp_nar .boolean a)) 14 x.toNatClampNeg (-1)) 15 x.toNatClampNeg (-1)) 12 t = (if g 1 t ≤ 0 then 24 else 0) ∧ FX12_begin_45 q (x + 1) (hs (hs (hs (hs g 12 x.toNatClampNeg s) 13 x.toNatClampNeg (vp_nar .boolean a)) 14 x.toNatClampNeg (-1)) 15 x.toNatClampNeg (-1)) 13 t = (if t = 0 then 1 else 0) ∧ FX12_begin_45 q (x + 1) (hs (hs (hs (hs g 12 x.toNatClampNeg s) 13 x.toNatClampNeg (vp_nar .boolean a)) 14 x.toNatClampNeg (-1)) 15 x.toNatClampNeg (-1)) 14 t = -1 ∧ FX12_begin_45 q (x + 1) (hs (hs (hs (hs g 12 x.toNatClampNeg s) 13 x.toNatClampNeg (vp_nar .boolean a)) 14 x.toNatClampNeg (-1)) 15 x.toNatClampNeg (-1)) 15 t = -1) ∧ (∀ t : Nat, (t : Int) < x.toInt → FX12_begin_45 q (x + 1) (hs (hs (hs (hs g 12 x.toNatClampNeg s) 13 x.toNatClampNeg (vp_nar .boolean a)) 14 x.toNatClampNeg (-1)) 15 x.toNatClampNeg (-1)) 12 t = g 12 t ∧ FX12_begin_45 q (x + 1) (hs (hs (hs (hs g 12 x.toNatClampNeg s) 13 x.toNatClampNeg (vp_nar .boolean a)) 14 x.toNatClampNeg (-1)) 15 x.toNatClampNeg (-1)) 13 t = g 13 t ∧ FX12_begin_45 q (x + 1) (hs (hs (hs (hs g 12 x.toNatClampNeg s) 13 x.toNatClampNeg (vp_nar .boolean a)) 14 x.toNatClampNeg (-1)) 15 x.toNatClampNeg (-1)) 14 t = g 14 t ∧ FX12_begin_45 q (x + 1) (hs (hs (hs (hs g 12 x.toNatClampNeg s) 13 x.toNatClampNeg (vp_nar .boolean a)) 14 x.toNatClampNeg (-1)) 15 x.toNatClampNeg (-1)) 15 t = g 15 t) ∧ (∀ k i, ¬ k = 0 → ¬ (12 ≤ k ∧ k ≤ 15) → FX12_begin_45 q (x + 1) (hs (hs (hs (hs g 12 x.toNatClampNeg s) 13 x.toNatClampNeg (vp_nar .boolean a)) 14 x.toNatClampNeg (-1)) 15 x.toNatClampNeg (-1)) k i = g k i) ∧ (∀ i, FX12_begin_45 q (x + 1) (hs (hs (hs (hs g 12 x.toNatClampNeg s) 13 x.toNatClampNeg (vp_nar .boolean a)) 14 x.toNatClampNeg (-1)) 15 x.toNatClampNeg (-1)) 0 i = if i = 18 ∨ i = 23 ∨ i = 24 ∨ i = 25 ∨ i = 26 ∨ i = 35 then 0 else g 0 i) := fun s a es ea => by
        obtain ⟨a1, a2, a3, a4⟩ := rb45 q (x + 1) (hs (hs (hs (hs g 12 x.toNatClampNeg s) 13 x.toNatClampNeg (vp_nar .boolean a)) 14 x.toNatClampNeg (-1)) 15 x.toNatClampNeg (-1)) (by unfold iv; omega) (by omega)
        generalize FX12_begin_45 q (x + 1) (hs (hs (hs (hs g 12 x.toNatClampNeg s) 13 x.toNatClampNeg (vp_nar .boolean a)) 14 x.toNatClampNeg (-1)) 15 x.toNatClampNeg (-1)) = G at *
        refine ⟨fun t p r => ?_, fun t p => ?_, fun k i p r => ?_, fun i => ?_⟩
        · by_cases d : (t : Int) = x.toInt
          · have dx : t = x.toNatClampNeg := by omega
            obtain ⟨b1, b2, b3, b4⟩ := a2 t (by omega)
            rw [b1, b2, b3, b4]
            refine ⟨?_, ?_, ?_, ?_⟩
            · rw [dx, hs_o (by simp), hs_o (by simp), hs_o (by simp), hs_self, es]
            · rw [dx, hs_o (by simp), hs_o (by simp), hs_self, ea]
              by_cases x0 : x = 0
              · subst x0
                rfl
              · rw [if_neg x0, if_neg (fun w => x0 (tI (by omega)))]
                rfl
            · rw [dx, hs_o (by simp), hs_self]
            · rw [dx, hs_self]
          · have := a1 t (by omega) r
            rw [hs_o (by simp), hs_o (by simp), hs_o (by simp), hs_o (by simp)] at this
            exact this
        · have n : ¬ t = x.toNatClampNeg := by omega
          obtain ⟨b1, b2, b3, b4⟩ := a2 t (by omega)
          rw [b1, b2, b3, b4]
          simp [hs_get, n]
        · rw [a3 k i p r, hs_o (by omega), hs_o (by omega), hs_o (by omega), hs_o (by omega)]
        · rw [a4 i, hs_o (by simp), hs_o (by simp), hs_o (by simp), hs_o (by simp)]
      by_cases d : g 1 x.toNatClampNeg ≤ 0
      · rw [if_pos d]
        by_cases e : x = 0
        · rw [if_pos e]
          exact fin 24 1 (by rw [if_pos d]) (by rw [if_pos e])
        · rw [if_neg e]
          exact fin 24 0 (by rw [if_pos d]) (by rw [if_neg e])
      · rw [if_neg d]
        by_cases e : x = 0
        · rw [if_pos e]
          exact fin 0 1 (by rw [if_neg d]) (by rw [if_pos e])
        · rw [if_neg e]
          exact fin 0 0 (by rw [if_neg d]) (by rw [if_neg e])
theorem rb2 : ∀ (q : Nat) (x : Int32) (g : ph_H), iv 0 28 x → 28 - x.toInt < (q : Int) → ∃ g', FX12_begin_2 q x g = FX12_begin_45 2000 0 g' ∧ (∀ k : Nat, x.toInt ≤ k → k < 28 → g' 10 k = 0 ∧ g' 11 k = if k < 12 then g 6 k else 0) ∧ (∀ k : Nat, (k : Int) < x.toInt → g' 10 k = g 10 k ∧ g' 11 k = g 11 k) ∧ (∀ k i, ¬ k = 10 → ¬ k = 11 → g' k i = g k i)
  | 0, x, g, f, m => by unfold iv at f; omega
  | q + 1, x, g, f, m => by
    have k1 : (1 : Int32).toInt = 1 := by decide
    have k28 : (28 : Int32).toInt = 28 := by decide
    have k12 : (12 : Int32).toInt = 12 := by decide
    have xn := iv_nat f rfl
    unfold iv at f
    unfold FX12_begin_2 FX12_begin_36
    by_cases c : 28 ≤ x
    · rw [if_pos c]
      rw [Int32.le_iff_toInt_le, k28] at c
      exact ⟨g, rfl, fun k a b => by omega, fun _ _ => ⟨rfl, rfl⟩, fun _ _ _ _ => rfl⟩
    · rw [if_neg c]
      rw [Int32.le_iff_toInt_le, k28] at c
      have e1 : (x + 1).toInt = x.toInt + 1 := by rw [ti_add (by omega) (by omega), k1]
      have fin : ∀ s : Int32, s = (if x.toNatClampNeg < 12 then g 6 x.toNatClampNeg else 0) → ∃ g', FX12_begin_2 q (x + 1) (hs (hs g 10 x.toNatClampNeg 0) 11 x.toNatClampNeg s) = FX12_begin_45 2000 0 g' ∧ (∀ k : Nat, x.toInt ≤ k → k < 28 → g' 10 k = 0 ∧ g' 11 k = if k < 12 then g 6 k else 0) ∧ (∀ k : Nat, (k : Int) < x.toInt → g' 10 k = g 10 k ∧ g' 11 k = g 11 k) ∧ (∀ k i, ¬ k = 10 → ¬ k = 11 → g' k i = g k i) := fun s es => by
        obtain ⟨g', a1, a2, a3, a4⟩ := rb2 q (x + 1) (hs (hs g 10 x.toNatClampNeg 0) 11 x.toNatClampNeg s) (by unfold iv; omega) (by omega)
        refine ⟨g', a1, fun k p r => ?_, fun k p => ?_, fun k i p r => ?_⟩
        · by_cases d : (k : Int) = x.toInt
          · have dx : k = x.toNatClampNeg := by omega
            obtain ⟨b1, b2⟩ := a3 k (by omega)
            rw [b1, b2, dx, hs_o (by simp), hs_self, hs_self, es]
            exact ⟨rfl, rfl⟩
          · obtain ⟨b1, b2⟩ := a2 k (by omega) r
            rw [b1, b2, hs_o (by simp), hs_o (by simp)]
            exact ⟨rfl, rfl⟩
        · have n : ¬ k = x.toNatClampNeg := by omega
          obtain ⟨b1, b2⟩ := a3 k (by omega)
          rw [b1, b2]
          simp [hs_get, n]
        · rw [a4 k i p r, hs_o (fun w => r w.1), hs_o (fun w => p w.1)]
      by_cases d : 12 ≤ x
      · rw [if_pos d]
        rw [Int32.le_iff_toInt_le, k12] at d
        exact fin 0 (by rw [if_neg (by omega)])
      · rw [if_neg d]
        rw [Int32.le_iff_toInt_le, k12] at d
        exact fin _ (by rw [if_pos (by omega)])
theorem rbeg (g : ph_H) : (∀ k, k < 28 → FX12_begin g 10 k = 0 ∧ FX12_begin g 11 k = if k < 12 then g 6 k else 0) ∧ (∀ t, t < 4 → FX12_begin g 12 t = (if g 1 t ≤ 0 then 24 else 0) ∧ FX12_begin g 13 t = (if t = 0 then 1 else 0) ∧ FX12_begin g 14 t = -1 ∧ FX12_begin g 15 t = -1) ∧ (∀ k i, ¬ k = 0 → ¬ (10 ≤ k ∧ k ≤ 15) → FX12_begin g k i = g k i) ∧ (∀ i, FX12_begin g 0 i = if i = 18 ∨ i = 23 ∨ i = 24 ∨ i = 25 ∨ i = 26 ∨ i = 35 then 0 else g 0 i) := by
  have k0 : (0 : Int32).toInt = 0 := by decide
  unfold FX12_begin
  obtain ⟨g', a1, a2, a3, a4⟩ := rb2 2000 0 g ⟨by decide, by decide⟩ (by decide)
  obtain ⟨b1, b2, b3, b4⟩ := rb45 2000 0 g' ⟨by decide, by decide⟩ (by decide)
  rw [a1]
  refine ⟨fun k hk => ?_, fun t ht => ?_, fun k i p r => ?_, fun i => ?_⟩
  · rw [b3 10 k (by omega) (by omega), b3 11 k (by omega) (by omega)]
    exact a2 k (by omega) hk
  · have := b1 t (by omega) ht
    rw [a4 1 t (by decide) (by decide)] at this
    exact this
  · rw [b3 k i p (by omega), a4 k i (by omega) (by omega)]
  · rw [b4 i, a4 0 i (by decide) (by decide)]
def PR (h g : ph_H) : Prop := Rpr h g ∧ (∀ c, c < 12 → h 11 c = g 6 c) ∧ (∀ i, iv 0 19 (g 2 i))
theorem begin_RC {h g : ph_H} {kv : Int32} (p : PR h g) (e : kv = kn g) (n : 0 ≤ (kn g).toInt) (v : ∀ k : Nat, (k : Int) < (kn g).toInt → h 12 k = vi g k) : RC (FX3_begin_st kv h) (FX12_begin g) := by
  obtain ⟨c1, c2, c3, c4, c5, c6, c7, c8⟩ := cbeg kv h
  obtain ⟨r1, r2, r3, r4⟩ := rbeg g
  have k0 : (0 : Int32).toInt = 0 := by decide
  have kn1 : (-1 : Int32).toInt = -1 := by decide
  have ek : kn (FX12_begin g) = kn g := by
    unfold kn
    rw [r4, r4, r4]
    simp
  have ev : ∀ k, vi (FX12_begin g) k = vi g k := fun k => by
    unfold vi
    rw [r4, r3 7 k (by decide) (by decide), r3 36 k (by decide) (by decide)]
    simp
  have e18 : FX12_begin g 0 18 = 0 := by rw [r4]; simp
  have e23 : FX12_begin g 0 23 = 0 := by rw [r4]; simp
  refine ⟨fun i hi => ?_, fun t ht => ?_, fun t ht => ?_, ⟨?_, fun x hx => ?_⟩, ⟨?_, ?_, ?_, fun k hk => ?_⟩, ⟨fun t ht => ?_, fun i hi => ?_⟩, ⟨fun k hk => ?_, fun t ht => ?_, fun i => ?_⟩⟩
  · obtain ⟨a, b⟩ := r1 i hi
    rw [c1 i hi, c2 i hi, a, b]
    refine ⟨rfl, ?_⟩
    by_cases c : i < 12
    · rw [if_pos c, if_pos c]
      exact p.2.1 i c
    · rw [if_neg c, if_neg c]
  · rw [c3 t ht, (r2 t ht).1, r3 1 t (by decide) (by decide)]
    unfold nrm
    rw [if_neg (by decide)]
    by_cases c : g 1 t ≤ 0
    · rw [if_pos c, if_neg (fun w => by
        rw [Int32.lt_iff_toInt_lt] at w
        rw [Int32.le_iff_toInt_le] at c
        omega)]
    · rw [if_neg c, if_pos (nle c)]
  · obtain ⟨a, b, c, d⟩ := r2 t ht
    rw [c4 t ht, b, c, d]
    by_cases w : t = 0
    · rw [if_pos w]
      exact Or.inr (Or.inl ⟨rfl, rfl, rfl, rfl⟩)
    · rw [if_neg w]
      exact Or.inl ⟨rfl, rfl, rfl, rfl⟩
  · rw [c5, e18]
  · rw [e18, k0] at hx
    omega
  · rw [c7, e23]
  · rw [c6, ek, e]
  · rw [e23, ek, k0]
    exact n
  · rw [c8 _ _ (by decide), ev]
    exact v k (by rw [ek] at hk; exact hk)
  · rw [c8 _ _ (by decide), r3 1 t (by decide) (by decide)]
    exact p.1.1 t ht
  · rw [c8 _ _ (by decide), c8 _ _ (by decide), c8 _ _ (by decide), c8 _ _ (by decide), r3 2 i (by decide) (by decide), r3 3 i (by decide) (by decide), r3 4 i (by decide) (by decide), r3 5 i (by decide) (by decide)]
    exact p.1.2 i hi
  · exact Or.inl (r1 k hk).1
  · obtain ⟨a, b, c, d⟩ := r2 t ht
    rw [c, d, e18, k0, kn1]
    omega
  · rw [r3 2 i (by decide) (by decide)]
    exact p.2.2 i
end MG_48_x12B1
section MG_48_x13A2o2
/-! THE RELATION of a machine of the class and the reference's machine -/
def Rslo2 (h g : ph_H) : Prop := ∀ i, i < 28 → h 26 i = g 10 i ∧ h 27 i = g 11 i
def Rato2 (h g : ph_H) : Prop := ∀ t, t < 4 → nrm (g 1 t) (h 28 t) = g 12 t
def Rmdo2 (h g : ph_H) : Prop := ∀ t, t < 4 → MD (h 29 t) (h 30 t) (g 13 t) (g 14 t) (g 15 t)
def Rtho2 (h g : ph_H) : Prop := h 25 10 = g 0 18 ∧ ∀ x : Nat, (x : Int) < (g 0 18).toInt → h 31 x = g 16 x ∧ h 32 x = g 18 x ∧ OW (h 33 x) (g 17 x) ∧ ∀ i : Nat, (i : Int) < (g 18 x).toInt → h 34 (16 * x + i) = g 19 (16 * x + i)
def Rino2 (h g : ph_H) : Prop := h 25 12 = g 0 23 ∧ h 25 11 = kn g ∧ (g 0 23).toInt ≤ (kn g).toInt ∧ ∀ k : Nat, (k : Int) < (kn g).toInt → h 12 k = vi g k
def Rpro2 (h g : ph_H) : Prop := (∀ t, t < 4 → h 9 t = g 1 t) ∧ ∀ i, i < 96 → h 10 (4 * i) = g 2 i ∧ h 10 (4 * i + 1) = g 3 i ∧ h 10 (4 * i + 2) = g 4 i ∧ h 10 (4 * i + 3) = g 5 i
def RCo2 (h g : ph_H) : Prop := Rslo2 h g ∧ Rato2 h g ∧ Rmdo2 h g ∧ Rtho2 h g ∧ Rino2 h g ∧ Rpro2 h g ∧ LV g
theorem t_lto2 {t : Int32} (ht : iv 0 3 t) : t.toNatClampNeg < 4 := by
  have := iv_nat ht rfl
  unfold iv at ht
  omega
theorem many_ivo2 {z : zT} {g : ph_H} (I : IM z g) (t : Nat) : iv 0 24 (g 1 t) := IMv I 1 t
theorem ended_eqo2 {z : zT} {h g : ph_H} {t : Int32} (R : RCo2 h g) (I : IM z g) (ht : iv 0 3 t) : FX3_hasEnded_oc2 t h = if g 12 t.toNatClampNeg = 24 then 1 else 0 := by
  obtain ⟨r1, r2, r3, r4, r5, r6, r7⟩ := R
  have e := r2 _ (t_lto2 ht)
  have f := r6.1 _ (t_lto2 ht)
  have hm := many_ivo2 I t.toNatClampNeg
  have k24 : (24 : Int32).toInt = 24 := by decide
  unfold FX3_hasEnded_oc2 FX5_has_t
  rw [f, ← e]
  unfold nrm iv at *
  by_cases c : h 28 t.toNatClampNeg < 0
  · simp only [if_pos c, if_true]
  · rw [if_neg c, if_neg c]
    by_cases d : h 28 t.toNatClampNeg < g 1 t.toNatClampNeg
    · rw [if_pos d]
      rw [Int32.lt_iff_toInt_lt] at d
      have d1 : ¬ 24 ≤ h 28 t.toNatClampNeg := by rw [Int32.le_iff_toInt_le, k24]; omega
      have d2 : ¬ g 1 t.toNatClampNeg ≤ h 28 t.toNatClampNeg := by rw [Int32.le_iff_toInt_le]; omega
      have d3 : ¬ h 28 t.toNatClampNeg = 24 := fun w => d1 (by rw [w]; decide)
      rw [if_neg d1, if_neg d2, if_neg (by decide), if_neg d3]
    · rw [if_neg d, if_pos rfl]
      have d4 := nlt d
      by_cases d1 : 24 ≤ h 28 t.toNatClampNeg
      · rw [if_pos d1, if_pos rfl]
      · rw [if_neg d1, if_pos d4, if_pos rfl]
/-- where a THREAD that hasn't ended stands -/
theorem standso2 {z : zT} {h g : ph_H} {t : Int32} (R : RCo2 h g) (I : IM z g) (ht : iv 0 3 t) (e : ¬ g 12 t.toNatClampNeg = 24) : h 28 t.toNatClampNeg = g 12 t.toNatClampNeg ∧ iv 0 23 (h 28 t.toNatClampNeg) := by
  obtain ⟨r1, r2, r3, r4, r5, r6, r7⟩ := R
  have f := r2 _ (t_lto2 ht)
  have k := nrm_id (many_ivo2 I t.toNatClampNeg) (a := h 28 t.toNatClampNeg) (by rw [f]; exact e)
  rw [f] at k
  exact ⟨k.1.symm, k.2.1, by omega⟩
theorem partso2 {z : zT} {h g : ph_H} {t : Int32} (R : RCo2 h g) (I : IM z g) (ht : iv 0 3 t) (e : ¬ g 12 t.toNatClampNeg = 24) :
    h 10 (FX5_firstPart_t t (h 28 t.toNatClampNeg) h).toNatClampNeg = g 2 ((24 * t) + g 12 t.toNatClampNeg).toNatClampNeg ∧
    h 10 ((FX5_firstPart_t t (h 28 t.toNatClampNeg) h) + 1).toNatClampNeg = g 3 ((24 * t) + g 12 t.toNatClampNeg).toNatClampNeg ∧
    h 10 ((FX5_firstPart_t t (h 28 t.toNatClampNeg) h) + 2).toNatClampNeg = g 4 ((24 * t) + g 12 t.toNatClampNeg).toNatClampNeg ∧
    h 10 ((FX5_firstPart_t t (h 28 t.toNatClampNeg) h) + 3).toNatClampNeg = g 5 ((24 * t) + g 12 t.toNatClampNeg).toNatClampNeg := by
  obtain ⟨e1, e2⟩ := standso2 R I ht e
  obtain ⟨r1, r2, r3, r4, r5, r6, r7⟩ := R
  unfold FX5_firstPart_t
  rw [← e1]
  have p := r6.2 _ (part_ix (j := 0) (v := 0) ht e2 (by decide) (by decide)).2
  rw [part_ix0 ht e2, (part_ix (j := 1) (v := 1) ht e2 (by decide) (by decide)).1, (part_ix (j := 2) (v := 2) ht e2 (by decide) (by decide)).1, (part_ix (j := 3) (v := 3) ht e2 (by decide) (by decide)).1]
  exact p
theorem refso2 {h g : ph_H} {k : Nat} (R : RCo2 h g) (hk : k < 28) (e : ¬ g 10 k = 0) : ((g 11 k).toNatClampNeg : Int) = (g 11 k).toInt ∧ ((g 11 k).toNatClampNeg : Int) < (g 0 18).toInt ∧ g 16 (g 11 k).toNatClampNeg = g 10 k := by
  rcases R.2.2.2.2.2.2.1 k hk with c | ⟨c1, c2, c3⟩
  · exact absurd c e
  · have : ((g 11 k).toNatClampNeg : Int) = (g 11 k).toInt := by
      rw [← Int32.toNat_toInt]
      omega
    exact ⟨this, by omega, c3⟩
theorem own_ato2 {h g : ph_H} {k : Nat} (R : RCo2 h g) (hk : k < 28) (e : ¬ g 10 k = 0) : OW (h 33 (g 11 k).toNatClampNeg) (g 17 (g 11 k).toNatClampNeg) := by
  obtain ⟨a, b, c⟩ := refso2 R hk e
  exact (R.2.2.2.1.2 _ b).2.2.1
theorem sl_lto2 {t a : Int32} {g : ph_H} (ht : iv 0 3 t) : (FX12_local t a g).toNatClampNeg < 28 := by
  have f := slot_iv (a := a) (g := g) ht
  have := iv_nat f rfl
  unfold iv at f
  omega
theorem lock_eqo2 {h g : ph_H} {k : Int32} (R : RCo2 h g) (hk : k.toNatClampNeg < 28) : FX3_lockIn_oc2 k h = if FX12_isLock k g = 0 then -1 else g 11 k.toNatClampNeg := by
  obtain ⟨e1, e2⟩ := R.1 _ hk
  unfold FX3_lockIn_oc2 FX3_lockIn_oc2_20 FX12_isLock FX12_isLock_20
  rw [e1, e2]
  by_cases c : g 10 k.toNatClampNeg = 2
  · rw [if_pos c, if_pos c, if_neg (by decide)]
  · rw [if_neg c, if_neg c]
    by_cases d : g 10 k.toNatClampNeg = 3
    · rw [if_pos d, if_pos d, if_neg (by decide)]
    · rw [if_neg d, if_neg d, if_pos rfl]
theorem isLock_to2 {g : ph_H} {k : Int32} (e : ¬ FX12_isLock k g = 0) : ¬ g 10 k.toNatClampNeg = 0 := by
  intro c
  apply e
  unfold FX12_isLock
  rw [c]
  rfl
theorem canGo_eqo2 {z : zT} {h g : ph_H} {t : Int32} (R : RCo2 h g) (I : IM z g) (ht : iv 0 3 t) : FX3_canGo_oc2 t h = FX12_canGo t g := by
  have en := ended_eqo2 R I ht
  have md := R.2.2.1 _ (t_lto2 ht)
  have k1 : (-1 : Int32) < 0 := by decide
  unfold FX3_canGo_oc2 FX12_canGo FX3_canGo_oc2_137 FX12_canGo_107 FX12_canGo_108 FX12_canGo_144
  rw [en]
  by_cases e : g 12 t.toNatClampNeg = 24
  · simp (decide := true) only [e, ↓reduceIte]
    repeat' split
    all_goals rfl
  · obtain ⟨p0, p1, p2, p3⟩ := partso2 R I ht e
    rcases md with ⟨m, st, as, wk⟩ | ⟨m, st, as, wk⟩ | ⟨m, st, as, q, wk⟩ | ⟨m, st, as, wk, q⟩
    · simp (decide := true) only [m, st, ↓reduceIte]
    · simp (decide := true) only [m, st, as, wk, e, k1, p0, p1, ↓reduceIte]
      by_cases o : g 2 ((24 * t) + g 12 t.toNatClampNeg).toNatClampNeg = 12
      · rw [slot_eq t _ g, lock_eqo2 R (sl_lto2 ht)]
        by_cases l : FX12_isLock (FX12_local t (g 3 ((24 * t) + g 12 t.toNatClampNeg).toNatClampNeg) g) g = 0
        · simp (decide := true) only [o, l, k1, ↓reduceIte]
        · have l0 := isLock_to2 l
          have lo := own_ato2 R (sl_lto2 ht) l0
          obtain ⟨a, b, c⟩ := refso2 R (sl_lto2 ht) l0
          have nn := nn_t (x := g 11 (FX12_local t (g 3 ((24 * t) + g 12 t.toNatClampNeg).toNatClampNeg) g).toNatClampNeg) (by omega)
          simp (decide := true) only [o, l, nn, ↓reduceIte]
          by_cases f : g 17 (g 11 (FX12_local t (g 3 ((24 * t) + g 12 t.toNatClampNeg).toNatClampNeg) g).toNatClampNeg).toNatClampNeg < 0
          · rw [if_pos f, if_pos ((OW_free lo).mpr f)]
          · rw [if_neg f, if_neg (fun w => f ((OW_free lo).mp w))]
            by_cases u : g 17 (g 11 (FX12_local t (g 3 ((24 * t) + g 12 t.toNatClampNeg).toNatClampNeg) g).toNatClampNeg).toNatClampNeg = t
            · rw [if_pos u, if_pos ((OW_own lo ht).mpr u)]
            · rw [if_neg u, if_neg (fun w => u ((OW_own lo ht).mp w))]
      · simp (decide := true) only [o, ↓reduceIte]
    · unfold iv at q
      have nn := nn_t q.1
      simp (decide := true) only [m, st, as, nn, e, ↓reduceIte]
    · have lv := (R.2.2.2.2.2.2.2.1 _ (t_lto2 ht)).2
      rw [wk] at lv
      have qn := iv_nat q rfl
      have ow := (R.2.2.2.1.2 (h 30 t.toNatClampNeg).toNatClampNeg (by omega)).2.2.1
      unfold iv at q
      have nn := nn_t q.1
      simp (decide := true) only [m, st, as, wk, k1, nn, e, ↓reduceIte]
      by_cases f : g 17 (h 30 t.toNatClampNeg).toNatClampNeg < 0
      · rw [if_pos ((OW_free ow).mpr f), if_neg (fun w => nn_of w f)]
      · rw [if_neg (fun w => f ((OW_free ow).mp w)), if_pos (nlt f)]
end MG_48_x13A2o2
section MG_48_x14A3o2
/-! primitives: what one write on each side does to the relation -/
theorem RCo2.cso2 {h g : ph_H} (R : RCo2 h g) {i : Nat} {v : Int32} (q : 12 < i) : RCo2 (hs h 25 i v) g := by
  obtain ⟨r1, r2, r3, r4, r5, r6, r7⟩ := R
  have q0 : ¬ 10 = i := by omega
  have q1 : ¬ 11 = i := by omega
  have q2 : ¬ 12 = i := by omega
  refine ⟨?_, ?_, ?_, ?_, ?_, ?_, r7⟩
  · simpa [Rslo2, hs_get] using r1
  · simpa [Rato2, hs_get] using r2
  · simpa [Rmdo2, hs_get] using r3
  · simpa [Rtho2, hs_get, q0] using r4
  · simpa [Rino2, hs_get, q1, q2] using r5
  · simpa [Rpro2, hs_get] using r6
theorem RCo2.rso2 {h g : ph_H} (R : RCo2 h g) {i : Nat} {v : Int32} (q : rsf i = true) : RCo2 h (hs g 0 i v) := by
  obtain ⟨r1, r2, r3, r4, r5, r6, r7⟩ := R
  obtain ⟨q0, q1, q2, q3, q4⟩ := rsf_ne q
  refine ⟨?_, ?_, ?_, ?_, ?_, ?_, ?_⟩
  · simpa [Rslo2, hs_get] using r1
  · simpa [Rato2, hs_get] using r2
  · simpa [Rmdo2, hs_get] using r3
  · simpa [Rtho2, hs_get, q1] using r4
  · simpa [Rino2, kn, vi, hs_get, q0, q2, q3, q4] using r5
  · simpa [Rpro2, hs_get] using r6
  · simpa [LV, hs_get, q1] using r7
theorem RCo2.sloto2 {h g : ph_H} (R : RCo2 h g) {k : Nat} {kd v : Int32} (q : kd = 0 ∨ (0 ≤ v.toInt ∧ v.toInt < (g 0 18).toInt ∧ g 16 v.toNatClampNeg = kd)) : RCo2 (hs (hs h 26 k kd) 27 k v) (hs (hs g 10 k kd) 11 k v) := by
  obtain ⟨r1, r2, r3, r4, r5, r6, r7⟩ := R
  refine ⟨?_, ?_, ?_, ?_, ?_, ?_, ?_⟩
  · intro i hi
    have := r1 i hi
    simp only [hs_get]
    by_cases e : i = k
    · simp [e]
    · simpa [e] using this
  · simpa [Rato2, hs_get] using r2
  · simpa [Rmdo2, hs_get] using r3
  · simpa [Rtho2, hs_get] using r4
  · simpa [Rino2, kn, vi, hs_get] using r5
  · simpa [Rpro2, hs_get] using r6
  · refine ⟨fun i hi => ?_, by simpa [hs_get] using r7.2.1, by simpa [hs_get] using r7.2.2⟩
    have := r7.1 i hi
    by_cases e : i = k
    · simpa [hs_get, e] using q
    · simpa [hs_get, e] using this
theorem RCo2.ato2 {h g : ph_H} (R : RCo2 h g) {t : Nat} {a : Int32} : RCo2 (hs h 28 t a) (hs g 12 t (nrm (g 1 t) a)) := by
  obtain ⟨r1, r2, r3, r4, r5, r6, r7⟩ := R
  refine ⟨?_, ?_, ?_, ?_, ?_, ?_, ?_⟩
  · simpa [Rslo2, hs_get] using r1
  · intro u hu
    have := r2 u hu
    by_cases e : u = t
    · simp [hs_get, e]
    · simpa [hs_get, e] using this
  · simpa [Rmdo2, hs_get] using r3
  · simpa [Rtho2, hs_get] using r4
  · simpa [Rino2, kn, vi, hs_get] using r5
  · simpa [Rpro2, hs_get] using r6
  · simpa [LV, hs_get] using r7
theorem RCo2.owno2 {h g : ph_H} (R : RCo2 h g) {x : Nat} {c r : Int32} (q : OW c r) : RCo2 (hs h 33 x c) (hs g 17 x r) := by
  obtain ⟨r1, r2, r3, r4, r5, r6, r7⟩ := R
  refine ⟨?_, ?_, ?_, ⟨?_, ?_⟩, ?_, ?_, ?_⟩
  · simpa [Rslo2, hs_get] using r1
  · simpa [Rato2, hs_get] using r2
  · simpa [Rmdo2, hs_get] using r3
  · simpa [hs_get] using r4.1
  · intro y hy
    have := r4.2 y (by simpa [hs_get] using hy)
    by_cases e : y = x
    · subst e
      simpa [hs_get, q] using ⟨this.1, this.2.1, this.2.2.2⟩
    · simpa [hs_get, e] using this
  · simpa [Rino2, kn, vi, hs_get] using r5
  · simpa [Rpro2, hs_get] using r6
  · simpa [LV, hs_get] using r7
theorem RCo2.rowo2 {h g : ph_H} (R : RCo2 h g) {j : Nat} {v : Int32} : RCo2 (hs h 34 j v) (hs g 19 j v) := by
  obtain ⟨r1, r2, r3, r4, r5, r6, r7⟩ := R
  refine ⟨?_, ?_, ?_, ⟨?_, ?_⟩, ?_, ?_, ?_⟩
  · simpa [Rslo2, hs_get] using r1
  · simpa [Rato2, hs_get] using r2
  · simpa [Rmdo2, hs_get] using r3
  · simpa [hs_get] using r4.1
  · intro y hy
    have := r4.2 y (by simpa [hs_get] using hy)
    refine ⟨by simpa [hs_get] using this.1, by simpa [hs_get] using this.2.1, by simpa [hs_get] using this.2.2.1, fun i hi => ?_⟩
    have w := this.2.2.2 i (by simpa [hs_get] using hi)
    simp only [hs_get]
    by_cases e : 16 * y + i = j
    · simp [e]
    · simpa [e] using w
  · simpa [Rino2, kn, vi, hs_get] using r5
  · simpa [Rpro2, hs_get] using r6
  · simpa [LV, hs_get] using r7
/-- places of rows that no THING has yet -/
theorem RCo2.rowco2 {z : zT} {h h' g : ph_H} (R : RCo2 h g) (I : IM z g) (hf : ∀ p i, ¬ p = 34 → h' p i = h p i) (hr : ∀ i : Nat, (i : Int) < 16 * (g 0 18).toInt → h' 34 i = h 34 i) : RCo2 h' g := by
  obtain ⟨r1, r2, r3, r4, r5, r6, r7⟩ := R
  refine ⟨?_, ?_, ?_, ⟨?_, ?_⟩, ?_, ?_, r7⟩
  · simpa [Rslo2, hf] using r1
  · simpa [Rato2, hf] using r2
  · simpa [Rmdo2, hf] using r3
  · simpa [hf] using r4.1
  · intro y hy
    have := r4.2 y hy
    refine ⟨by simpa [hf] using this.1, by simpa [hf] using this.2.1, by simpa [hf] using this.2.2.1, fun i hi => ?_⟩
    have w := this.2.2.2 i hi
    have s16 : iv 0 16 (g 18 y) := IMv I 18 y
    unfold iv at s16
    rw [hr _ (by omega)]
    exact w
  · simpa [Rino2, hf] using r5
  · simpa [Rpro2, hf] using r6
theorem RCo2.rowro2 {z : zT} {h g g' : ph_H} (R : RCo2 h g) (I : IM z g) (hf : ∀ p i, ¬ p = 19 → g' p i = g p i) (hr : ∀ i : Nat, (i : Int) < 16 * (g 0 18).toInt → g' 19 i = g 19 i) : RCo2 h g' := by
  obtain ⟨r1, r2, r3, r4, r5, r6, r7⟩ := R
  refine ⟨?_, ?_, ?_, ⟨?_, ?_⟩, ?_, ?_, ?_⟩
  · simpa [Rslo2, hf] using r1
  · simpa [Rato2, hf] using r2
  · simpa [Rmdo2, hf] using r3
  · simpa [hf] using r4.1
  · intro y hy
    have hy : (y : Int) < (g 0 18).toInt := by simpa [hf] using hy
    have := r4.2 y hy
    refine ⟨by simpa [hf] using this.1, by simpa [hf] using this.2.1, by simpa [hf] using this.2.2.1, fun i hi => ?_⟩
    have hi : (i : Int) < (g 18 y).toInt := by simpa [hf] using hi
    have w := this.2.2.2 i hi
    have s16 : iv 0 16 (g 18 y) := IMv I 18 y
    unfold iv at s16
    rw [hr _ (by omega)]
    exact w
  · simpa [Rino2, kn, vi, hf] using r5
  · simpa [Rpro2, hf] using r6
  · simpa [LV, hf] using r7
theorem RCo2.mdo2 {h g h' g' : ph_H} {t : Nat} (R : RCo2 h g) (hc : ∀ k i, ¬ (k = 29 ∧ i = t) → ¬ (k = 30 ∧ i = t) → h' k i = h k i) (hr : ∀ k i, ¬ (k = 13 ∧ i = t) → ¬ (k = 14 ∧ i = t) → ¬ (k = 15 ∧ i = t) → g' k i = g k i) (m : t < 4 → MD (h' 29 t) (h' 30 t) (g' 13 t) (g' 14 t) (g' 15 t)) (l : t < 4 → (g' 14 t).toInt < (g 0 18).toInt ∧ (g' 15 t).toInt < (g 0 18).toInt) : RCo2 h' g' := by
  obtain ⟨r1, r2, r3, r4, r5, r6, r7⟩ := R
  have c : ∀ k i, ¬ k = 29 → ¬ k = 30 → h' k i = h k i := fun k i a b => hc k i (fun w => a w.1) (fun w => b w.1)
  have r : ∀ k i, ¬ k = 13 → ¬ k = 14 → ¬ k = 15 → g' k i = g k i := fun k i a b c => hr k i (fun w => a w.1) (fun w => b w.1) (fun w => c w.1)
  have d : ∀ i, i ≠ t → h' 29 i = h 29 i ∧ h' 30 i = h 30 i := fun i e => ⟨hc _ _ (fun w => e w.2) (fun w => e w.2), hc _ _ (fun w => e w.2) (fun w => e w.2)⟩
  have s : ∀ k i, i ≠ t → g' k i = g k i := fun k i e => hr _ _ (fun w => e w.2) (fun w => e w.2) (fun w => e w.2)
  refine ⟨?_, ?_, ?_, ?_, ?_, ?_, ?_⟩
  · simpa [Rslo2, c, r] using r1
  · simpa [Rato2, c, r] using r2
  · intro u hu
    by_cases e : u = t
    · rw [e]
      exact m (e ▸ hu)
    · rw [(d u e).1, (d u e).2, s _ u e, s _ u e, s _ u e]
      exact r3 u hu
  · simpa [Rtho2, c, r] using r4
  · simpa [Rino2, kn, vi, c, r] using r5
  · simpa [Rpro2, c, r] using r6
  · refine ⟨by simpa [r] using r7.1, fun u hu => ?_, by simpa [r] using r7.2.2⟩
    rw [r 0 18 (by decide) (by decide) (by decide)]
    by_cases e : u = t
    · rw [e]
      exact l (e ▸ hu)
    · rw [s _ u e, s _ u e]
      exact r7.2.1 u hu
theorem RCo2.starto2 {z : zT} {h g : ph_H} (R : RCo2 h g) (I : IM z g) {t : Nat} (ht : t < 4) (e : h 29 t = 0) : RCo2 (hs h 29 t 1) (hs g 13 t 1) := by
  have m := MD0 (R.2.2.1 t ht) e
  refine R.mdo2 (t := t) (fun k i a b => hs_o a) (fun k i a b c => hs_o a) (fun _ => ?_) (fun _ => ?_)
  · rw [hs_self, hs_self, hs_o (by simp), hs_o (by simp), hs_o (by simp)]
    exact Or.inr (Or.inl ⟨rfl, rfl, m.2⟩)
  · rw [hs_o (by simp), hs_o (by simp)]
    exact R.2.2.2.2.2.2.2.1 t ht
theorem RCo2.riseo2 {z : zT} {h g : ph_H} (R : RCo2 h g) (I : IM z g) {t : Nat} (ht : t < 4) (e : h 29 t = 3) : RCo2 (hs h 29 t 1) (hs g 15 t (-1)) := by
  have m := MD3 (R.2.2.1 t ht) e
  refine R.mdo2 (t := t) (fun k i a b => hs_o a) (fun k i a b c => hs_o c) (fun _ => ?_) (fun _ => ?_)
  · rw [hs_self, hs_self, hs_o (by simp), hs_o (by simp), hs_o (by simp)]
    exact Or.inr (Or.inl ⟨rfl, m.1, m.2.1, rfl⟩)
  · rw [hs_self, hs_o (by simp)]
    have n1 : (-1 : Int32).toInt = -1 := by decide
    have := th_nn I
    exact ⟨(R.2.2.2.2.2.2.2.1 t ht).1, by omega⟩
theorem RCo2.lieo2 {z : zT} {h g : ph_H} (R : RCo2 h g) (I : IM z g) {t : Nat} {q : Int32} (ht : t < 4) (e : h 29 t = 1) (hq : iv 0 11 q) (hl : q.toInt < (g 0 18).toInt) : RCo2 (hs (hs h 29 t 2) 30 t q) (hs g 14 t q) := by
  have m := MD1 (R.2.2.1 t ht) e
  refine R.mdo2 (t := t) (fun k i a b => by rw [hs_o b, hs_o a]) (fun k i a b c => hs_o b) (fun _ => ?_) (fun _ => ?_)
  · rw [hs_self, hs_self, hs_o (by simp), hs_self, hs_o (by simp), hs_o (by simp)]
    exact Or.inr (Or.inr (Or.inl ⟨rfl, m.1, rfl, hq, m.2.2⟩))
  · rw [hs_self, hs_o (by simp)]
    exact ⟨hl, (R.2.2.2.2.2.2.2.1 t ht).2⟩
theorem RCo2.wakeo2 {z : zT} {h g : ph_H} (R : RCo2 h g) (I : IM z g) {t : Nat} (ht : t < 4) (e : h 29 t = 2) : RCo2 (hs h 29 t 3) (hs (hs g 15 t (g 14 t)) 14 t (-1)) := by
  have m := MD2 (R.2.2.1 t ht) e
  refine R.mdo2 (t := t) (fun k i a b => hs_o a) (fun k i a b c => by rw [hs_o b, hs_o c]) (fun _ => ?_) (fun _ => ?_)
  · rw [hs_self, hs_self, hs_o (by simp), hs_o (by simp), hs_o (by simp), hs_o (by simp), hs_self]
    exact Or.inr (Or.inr (Or.inr ⟨rfl, m.1, rfl, m.2.1, m.2.2.1⟩))
  · rw [hs_self, hs_o (by simp), hs_self]
    have n1 : (-1 : Int32).toInt = -1 := by decide
    have := th_nn I
    exact ⟨by omega, (R.2.2.2.2.2.2.2.1 t ht).1⟩
theorem RCo2.takeo2 {h g : ph_H} (R : RCo2 h g) {v : Int32} (q : v.toInt ≤ (kn g).toInt) : RCo2 (hs h 25 12 v) (hs g 0 23 v) := by
  obtain ⟨r1, r2, r3, r4, r5, r6, r7⟩ := R
  refine ⟨?_, ?_, ?_, ?_, ⟨?_, ?_, ?_, ?_⟩, ?_, ?_⟩
  · simpa [Rslo2, hs_get] using r1
  · simpa [Rato2, hs_get] using r2
  · simpa [Rmdo2, hs_get] using r3
  · simpa [Rtho2, hs_get] using r4
  · simp [hs_get]
  · simpa [kn, hs_get] using r5.2.1
  · simpa [kn, hs_get] using q
  · simpa [kn, vi, hs_get] using r5.2.2.2
  · simpa [Rpro2, hs_get] using r6
  · simpa [LV, hs_get] using r7
/-- a new THING -/
theorem RCo2.newo2 {z : zT} {h g : ph_H} (R : RCo2 h g) (I : IM z g) {kd sz : Int32} (hl : (g 0 18).toInt < 12) (hr : ∀ i : Nat, (i : Int) < sz.toInt → h 34 (16 * (g 0 18).toNatClampNeg + i) = g 19 (16 * (g 0 18).toNatClampNeg + i)) :
    RCo2 (hs (hs (hs (hs h 25 10 (g 0 18 + 1)) 31 (g 0 18).toNatClampNeg kd) 32 (g 0 18).toNatClampNeg sz) 33 (g 0 18).toNatClampNeg (-2)) (hs (hs (hs (hs g 16 (g 0 18).toNatClampNeg kd) 17 (g 0 18).toNatClampNeg (-1)) 18 (g 0 18).toNatClampNeg sz) 0 18 (g 0 18 + 1)) := by
  obtain ⟨r1, r2, r3, r4, r5, r6, r7⟩ := R
  have tn := th_nn I
  have k1 : (1 : Int32).toInt = 1 := by decide
  have e1 : (g 0 18 + 1).toInt = (g 0 18).toInt + 1 := by rw [ti_add (by omega) (by omega), k1]
  have e2 : ((g 0 18).toNatClampNeg : Int) = (g 0 18).toInt := by
    rw [← Int32.toNat_toInt]
    omega
  refine ⟨?_, ?_, ?_, ⟨?_, ?_⟩, ?_, ?_, ?_⟩
  · simpa [Rslo2, hs_get] using r1
  · simpa [Rato2, hs_get] using r2
  · simpa [Rmdo2, hs_get] using r3
  · simp [hs_get]
  · intro y hy
    have hy : (y : Int) < (g 0 18 + 1).toInt := by simpa [hs_get] using hy
    by_cases e : y = (g 0 18).toNatClampNeg
    · subst e
      simp only [hs_get]
      have ow : OW (-2) (-1) := Or.inl ⟨rfl, rfl⟩
      refine ⟨by simp, by simp, by simpa using ow, ?_⟩
      simpa using hr
    · have := r4.2 y (by omega)
      simpa [hs_get, e] using this
  · simpa [Rino2, kn, vi, hs_get] using r5
  · simpa [Rpro2, hs_get] using r6
  · refine ⟨fun i hi => ?_, fun t ht => ?_, by simpa [hs_get] using r7.2.2⟩
    · rcases r7.1 i hi with c | ⟨c1, c2, c3⟩
      · left
        simpa [hs_get] using c
      · right
        have e3 : ((g 11 i).toNatClampNeg : Int) = (g 11 i).toInt := by
          rw [← Int32.toNat_toInt]
          omega
        have e4 : ¬ (g 11 i).toNatClampNeg = (g 0 18).toNatClampNeg := by omega
        refine ⟨by simpa [hs_get] using c1, ?_, by simpa [hs_get, e4] using c3⟩
        have : (g 11 i).toInt < (g 0 18 + 1).toInt := by omega
        simpa [hs_get] using this
    · have := r7.2.1 t ht
      have w : (g 14 t).toInt < (g 0 18 + 1).toInt ∧ (g 15 t).toInt < (g 0 18 + 1).toInt := by omega
      simpa [hs_get] using w
end MG_48_x14A3o2
section MG_48_x15A5o2
/-! the class's own step: which INSTRUCTION does what -/
section
variable {h : ph_H} {t a b c : Int32}
theorem pf_0o2 (q0 : h 10 (FX5_firstPart_t t (h 28 t.toNatClampNeg) h).toNatClampNeg = 0) (q1 : h 10 ((FX5_firstPart_t t (h 28 t.toNatClampNeg) h) + 1).toNatClampNeg = a) (q2 : h 10 ((FX5_firstPart_t t (h 28 t.toNatClampNeg) h) + 2).toNatClampNeg = b) (q3 : h 10 ((FX5_firstPart_t t (h 28 t.toNatClampNeg) h) + 3).toNatClampNeg = c) : FX3_perform_oc2 t h = FX3_hold_oc2 (FX3_slotOf t a) 0 b h := by unfold FX3_perform_oc2; simp (decide := true) only [q0, q1, q2, q3, ↓reduceIte]
theorem pf_1o2 (q0 : h 10 (FX5_firstPart_t t (h 28 t.toNatClampNeg) h).toNatClampNeg = 1) (q1 : h 10 ((FX5_firstPart_t t (h 28 t.toNatClampNeg) h) + 1).toNatClampNeg = a) (q2 : h 10 ((FX5_firstPart_t t (h 28 t.toNatClampNeg) h) + 2).toNatClampNeg = b) (q3 : h 10 ((FX5_firstPart_t t (h 28 t.toNatClampNeg) h) + 3).toNatClampNeg = c) : FX3_perform_oc2 t h = FX3_getCell_oc2 (FX3_slotOf t a) (FJ9_floorMod_7cf53 b 12) h := by unfold FX3_perform_oc2; simp (decide := true) only [q0, q1, q2, q3, ↓reduceIte]
theorem pf_2o2 (q0 : h 10 (FX5_firstPart_t t (h 28 t.toNatClampNeg) h).toNatClampNeg = 2) (q1 : h 10 ((FX5_firstPart_t t (h 28 t.toNatClampNeg) h) + 1).toNatClampNeg = a) (q2 : h 10 ((FX5_firstPart_t t (h 28 t.toNatClampNeg) h) + 2).toNatClampNeg = b) (q3 : h 10 ((FX5_firstPart_t t (h 28 t.toNatClampNeg) h) + 3).toNatClampNeg = c) : FX3_perform_oc2 t h = FX3_putCell_oc2 (FJ9_floorMod_7cf53 a 12) (FX3_slotOf t b) h := by unfold FX3_perform_oc2; simp (decide := true) only [q0, q1, q2, q3, ↓reduceIte]
theorem pf_3o2 (q0 : h 10 (FX5_firstPart_t t (h 28 t.toNatClampNeg) h).toNatClampNeg = 3) (q1 : h 10 ((FX5_firstPart_t t (h 28 t.toNatClampNeg) h) + 1).toNatClampNeg = a) (q2 : h 10 ((FX5_firstPart_t t (h 28 t.toNatClampNeg) h) + 2).toNatClampNeg = b) (q3 : h 10 ((FX5_firstPart_t t (h 28 t.toNatClampNeg) h) + 3).toNatClampNeg = c) : FX3_perform_oc2 t h = FX3_reckon_oc2 3 (FX3_slotOf t a) (FX3_slotOf t b) h := by unfold FX3_perform_oc2; simp (decide := true) only [q0, q1, q2, q3, ↓reduceIte]
theorem pf_4o2 (q0 : h 10 (FX5_firstPart_t t (h 28 t.toNatClampNeg) h).toNatClampNeg = 4) (q1 : h 10 ((FX5_firstPart_t t (h 28 t.toNatClampNeg) h) + 1).toNatClampNeg = a) (q2 : h 10 ((FX5_firstPart_t t (h 28 t.toNatClampNeg) h) + 2).toNatClampNeg = b) (q3 : h 10 ((FX5_firstPart_t t (h 28 t.toNatClampNeg) h) + 3).toNatClampNeg = c) : FX3_perform_oc2 t h = FX3_reckon_oc2 4 (FX3_slotOf t a) (FX3_slotOf t b) h := by unfold FX3_perform_oc2; simp (decide := true) only [q0, q1, q2, q3, ↓reduceIte]
theorem pf_5o2 (q0 : h 10 (FX5_firstPart_t t (h 28 t.toNatClampNeg) h).toNatClampNeg = 5) (q1 : h 10 ((FX5_firstPart_t t (h 28 t.toNatClampNeg) h) + 1).toNatClampNeg = a) (q2 : h 10 ((FX5_firstPart_t t (h 28 t.toNatClampNeg) h) + 2).toNatClampNeg = b) (q3 : h 10 ((FX5_firstPart_t t (h 28 t.toNatClampNeg) h) + 3).toNatClampNeg = c) : FX3_perform_oc2 t h = FX3_reckon_oc2 5 (FX3_slotOf t a) (FX3_slotOf t b) h := by unfold FX3_perform_oc2; simp (decide := true) only [q0, q1, q2, q3, ↓reduceIte]
theorem pf_6o2 (q0 : h 10 (FX5_firstPart_t t (h 28 t.toNatClampNeg) h).toNatClampNeg = 6) (q1 : h 10 ((FX5_firstPart_t t (h 28 t.toNatClampNeg) h) + 1).toNatClampNeg = a) (q2 : h 10 ((FX5_firstPart_t t (h 28 t.toNatClampNeg) h) + 2).toNatClampNeg = b) (q3 : h 10 ((FX5_firstPart_t t (h 28 t.toNatClampNeg) h) + 3).toNatClampNeg = c) : FX3_perform_oc2 t h = FX3_goTo_oc2 a h := by unfold FX3_perform_oc2; simp (decide := true) only [q0, q1, q2, q3, ↓reduceIte]
theorem pf_7o2 (q0 : h 10 (FX5_firstPart_t t (h 28 t.toNatClampNeg) h).toNatClampNeg = 7) (q1 : h 10 ((FX5_firstPart_t t (h 28 t.toNatClampNeg) h) + 1).toNatClampNeg = a) (q2 : h 10 ((FX5_firstPart_t t (h 28 t.toNatClampNeg) h) + 2).toNatClampNeg = b) (q3 : h 10 ((FX5_firstPart_t t (h 28 t.toNatClampNeg) h) + 3).toNatClampNeg = c) : FX3_perform_oc2 t h = FX3_goUnless_oc2 (FX3_slotOf t a) b h := by unfold FX3_perform_oc2; simp (decide := true) only [q0, q1, q2, q3, ↓reduceIte]
theorem pf_8o2 (q0 : h 10 (FX5_firstPart_t t (h 28 t.toNatClampNeg) h).toNatClampNeg = 8) (q1 : h 10 ((FX5_firstPart_t t (h 28 t.toNatClampNeg) h) + 1).toNatClampNeg = a) (q2 : h 10 ((FX5_firstPart_t t (h 28 t.toNatClampNeg) h) + 2).toNatClampNeg = b) (q3 : h 10 ((FX5_firstPart_t t (h 28 t.toNatClampNeg) h) + 3).toNatClampNeg = c) : FX3_perform_oc2 t h = FX3_makeRow_oc2 (FX3_slotOf t a) (FX3_slotOf t b) h := by unfold FX3_perform_oc2; simp (decide := true) only [q0, q1, q2, q3, ↓reduceIte]
theorem pf_9o2 (q0 : h 10 (FX5_firstPart_t t (h 28 t.toNatClampNeg) h).toNatClampNeg = 9) (q1 : h 10 ((FX5_firstPart_t t (h 28 t.toNatClampNeg) h) + 1).toNatClampNeg = a) (q2 : h 10 ((FX5_firstPart_t t (h 28 t.toNatClampNeg) h) + 2).toNatClampNeg = b) (q3 : h 10 ((FX5_firstPart_t t (h 28 t.toNatClampNeg) h) + 3).toNatClampNeg = c) : FX3_perform_oc2 t h = FX3_readRow_oc2 (FX3_slotOf t a) (FX3_slotOf t b) (FX3_slotOf t c) h := by unfold FX3_perform_oc2; simp (decide := true) only [q0, q1, q2, q3, ↓reduceIte]
theorem pf_10o2 (q0 : h 10 (FX5_firstPart_t t (h 28 t.toNatClampNeg) h).toNatClampNeg = 10) (q1 : h 10 ((FX5_firstPart_t t (h 28 t.toNatClampNeg) h) + 1).toNatClampNeg = a) (q2 : h 10 ((FX5_firstPart_t t (h 28 t.toNatClampNeg) h) + 2).toNatClampNeg = b) (q3 : h 10 ((FX5_firstPart_t t (h 28 t.toNatClampNeg) h) + 3).toNatClampNeg = c) : FX3_perform_oc2 t h = FX3_writeRow_oc2 (FX3_slotOf t a) (FX3_slotOf t b) (FX3_slotOf t c) h := by unfold FX3_perform_oc2; simp (decide := true) only [q0, q1, q2, q3, ↓reduceIte]
theorem pf_11o2 (q0 : h 10 (FX5_firstPart_t t (h 28 t.toNatClampNeg) h).toNatClampNeg = 11) (q1 : h 10 ((FX5_firstPart_t t (h 28 t.toNatClampNeg) h) + 1).toNatClampNeg = a) (q2 : h 10 ((FX5_firstPart_t t (h 28 t.toNatClampNeg) h) + 2).toNatClampNeg = b) (q3 : h 10 ((FX5_firstPart_t t (h 28 t.toNatClampNeg) h) + 3).toNatClampNeg = c) : FX3_perform_oc2 t h = if (b &&& 1) = 0 then FX3_makeLock_oc2 (FX3_slotOf t a) 0 h else FX3_makeLock_oc2 (FX3_slotOf t a) 1 h := by
  unfold FX3_perform_oc2 FX3_perform_oc2_288
  simp (decide := true) only [q0, q1, q2, q3, ↓reduceIte]
theorem pf_12o2 (q0 : h 10 (FX5_firstPart_t t (h 28 t.toNatClampNeg) h).toNatClampNeg = 12) (q1 : h 10 ((FX5_firstPart_t t (h 28 t.toNatClampNeg) h) + 1).toNatClampNeg = a) (q2 : h 10 ((FX5_firstPart_t t (h 28 t.toNatClampNeg) h) + 2).toNatClampNeg = b) (q3 : h 10 ((FX5_firstPart_t t (h 28 t.toNatClampNeg) h) + 3).toNatClampNeg = c) : FX3_perform_oc2 t h = FX3_takeLock_oc2 t (FX3_slotOf t a) h := by unfold FX3_perform_oc2; simp (decide := true) only [q0, q1, q2, q3, ↓reduceIte]
theorem pf_13o2 (q0 : h 10 (FX5_firstPart_t t (h 28 t.toNatClampNeg) h).toNatClampNeg = 13) (q1 : h 10 ((FX5_firstPart_t t (h 28 t.toNatClampNeg) h) + 1).toNatClampNeg = a) (q2 : h 10 ((FX5_firstPart_t t (h 28 t.toNatClampNeg) h) + 2).toNatClampNeg = b) (q3 : h 10 ((FX5_firstPart_t t (h 28 t.toNatClampNeg) h) + 3).toNatClampNeg = c) : FX3_perform_oc2 t h = FX3_leaveLock_oc2 t (FX3_slotOf t a) h := by unfold FX3_perform_oc2; simp (decide := true) only [q0, q1, q2, q3, ↓reduceIte]
theorem pf_14o2 (q0 : h 10 (FX5_firstPart_t t (h 28 t.toNatClampNeg) h).toNatClampNeg = 14) (q1 : h 10 ((FX5_firstPart_t t (h 28 t.toNatClampNeg) h) + 1).toNatClampNeg = a) (q2 : h 10 ((FX5_firstPart_t t (h 28 t.toNatClampNeg) h) + 2).toNatClampNeg = b) (q3 : h 10 ((FX5_firstPart_t t (h 28 t.toNatClampNeg) h) + 3).toNatClampNeg = c) : FX3_perform_oc2 t h = FX3_lieDown_oc2 t (FX3_slotOf t a) h := by unfold FX3_perform_oc2; simp (decide := true) only [q0, q1, q2, q3, ↓reduceIte]
theorem pf_15o2 (q0 : h 10 (FX5_firstPart_t t (h 28 t.toNatClampNeg) h).toNatClampNeg = 15) (q1 : h 10 ((FX5_firstPart_t t (h 28 t.toNatClampNeg) h) + 1).toNatClampNeg = a) (q2 : h 10 ((FX5_firstPart_t t (h 28 t.toNatClampNeg) h) + 2).toNatClampNeg = b) (q3 : h 10 ((FX5_firstPart_t t (h 28 t.toNatClampNeg) h) + 3).toNatClampNeg = c) : FX3_perform_oc2 t h = FX3_wakeSleepers_oc2 t (FX3_slotOf t a) h := by unfold FX3_perform_oc2; simp (decide := true) only [q0, q1, q2, q3, ↓reduceIte]
theorem pf_16o2 (q0 : h 10 (FX5_firstPart_t t (h 28 t.toNatClampNeg) h).toNatClampNeg = 16) (q1 : h 10 ((FX5_firstPart_t t (h 28 t.toNatClampNeg) h) + 1).toNatClampNeg = a) (q2 : h 10 ((FX5_firstPart_t t (h 28 t.toNatClampNeg) h) + 2).toNatClampNeg = b) (q3 : h 10 ((FX5_firstPart_t t (h 28 t.toNatClampNeg) h) + 3).toNatClampNeg = c) : FX3_perform_oc2 t h = FX3_takeInput_oc2 (FX3_slotOf t a) h := by unfold FX3_perform_oc2; simp (decide := true) only [q0, q1, q2, q3, ↓reduceIte]
theorem pf_17o2 (q0 : h 10 (FX5_firstPart_t t (h 28 t.toNatClampNeg) h).toNatClampNeg = 17) (q1 : h 10 ((FX5_firstPart_t t (h 28 t.toNatClampNeg) h) + 1).toNatClampNeg = a) (q2 : h 10 ((FX5_firstPart_t t (h 28 t.toNatClampNeg) h) + 2).toNatClampNeg = b) (q3 : h 10 ((FX5_firstPart_t t (h 28 t.toNatClampNeg) h) + 3).toNatClampNeg = c) : FX3_perform_oc2 t h = FX3_startThread_oc2 (FJ9_floorMod_7cf53 a 4) h := by unfold FX3_perform_oc2; simp (decide := true) only [q0, q1, q2, q3, ↓reduceIte]
theorem pf_18o2 (q0 : h 10 (FX5_firstPart_t t (h 28 t.toNatClampNeg) h).toNatClampNeg = 18) (q1 : h 10 ((FX5_firstPart_t t (h 28 t.toNatClampNeg) h) + 1).toNatClampNeg = a) (q2 : h 10 ((FX5_firstPart_t t (h 28 t.toNatClampNeg) h) + 2).toNatClampNeg = b) (q3 : h 10 ((FX5_firstPart_t t (h 28 t.toNatClampNeg) h) + 3).toNatClampNeg = c) : FX3_perform_oc2 t h = (10 + FJ9_floorMod_7cf53 b 10, h) := by unfold FX3_perform_oc2; simp (decide := true) only [q0, q1, q2, q3, ↓reduceIte]
theorem pf_19o2 (q0 : h 10 (FX5_firstPart_t t (h 28 t.toNatClampNeg) h).toNatClampNeg = 19) (q1 : h 10 ((FX5_firstPart_t t (h 28 t.toNatClampNeg) h) + 1).toNatClampNeg = a) (q2 : h 10 ((FX5_firstPart_t t (h 28 t.toNatClampNeg) h) + 2).toNatClampNeg = b) (q3 : h 10 ((FX5_firstPart_t t (h 28 t.toNatClampNeg) h) + 3).toNatClampNeg = c) : FX3_perform_oc2 t h = FX3_goTo_oc2 24 h := by unfold FX3_perform_oc2; simp (decide := true) only [q0, q1, q2, q3, ↓reduceIte]
end
/-! what a step did -/
def EFo2 (h g : ph_H) : Prop := h 25 14 = g 0 29 ∧ h 25 15 = g 0 30 ∧ h 25 16 = g 0 31 ∧ (¬ g 0 31 = 0 → ¬ g 0 31 = 3 → h 25 17 = g 0 32)
def S0co2 (t : Int32) (h g : ph_H) : Prop := h 25 13 = h 28 t.toNatClampNeg + 1 ∧ h 25 14 = -2 ∧ h 25 15 = -2 ∧ h 25 16 = 0 ∧ g 0 29 = -2 ∧ g 0 30 = -2 ∧ g 0 31 = 0
def SIMo2 (t : Int32) (r : Int32 × ph_H) (G : ph_H) : Prop := (FX3_go_oc2_67 t r.1 r.2).1 = G 0 25 ∧ RCo2 (FX3_go_oc2_67 t r.1 r.2).2 G ∧ EFo2 (FX3_go_oc2_67 t r.1 r.2).2 G ∧ FL G
theorem fin_failo2 {t f : Int32} {h g : ph_H} (R : RCo2 h g) (S : S0co2 t h g) (hf : ¬ f = 0) (hm : 0 ≤ f.toInt) : SIMo2 t (f, h) (hs g 0 25 f) := by
  obtain ⟨s1, s2, s3, s4, s5, s6, s7⟩ := S
  unfold SIMo2 FX3_go_oc2_67
  rw [if_neg hf]
  refine ⟨by rw [hs_self], R.rso2 rfl, ?_, ?_⟩
  · simp [EFo2, hs_get, s2, s3, s4, s5, s6, s7]
  · simp [FL, PLp, hs_get, s5, s6, s7, hm]
theorem fin_goo2 {t a : Int32} {X G : ph_H} (R : RCo2 X G) (E : EFo2 X G) (h0 : G 0 25 = 0) (pl : PLp (G 0 29) ∧ PLp (G 0 30)) (e : X 25 13 = a) : SIMo2 t (0, X) (FX12_goTo t a G) := by
  unfold SIMo2 FX3_go_oc2_67
  subst e
  rw [goTo_eq, if_pos rfl]
  refine ⟨?_, R.ato2, ?_, ?_⟩
  · rw [hs_o (by simp)]
    exact h0.symm
  · simpa [EFo2, hs_get] using E
  · have k0 : (0 : Int32).toInt = 0 := by decide
    simp [FL, hs_get, h0, k0, pl]
theorem fin_stayo2 {t : Int32} {X G : ph_H} (R : RCo2 X G) (E : EFo2 X G) (h0 : G 0 25 = 0) (pl : PLp (G 0 29) ∧ PLp (G 0 30)) (e : nrm (G 1 t.toNatClampNeg) (X 25 13) = G 12 t.toNatClampNeg) : SIMo2 t (0, X) G := by
  have k := fin_goo2 (t := t) R E h0 pl rfl
  rw [goTo_eq, e, hs_id] at k
  exact k
/-! each INSTRUCTION -/
theorem op_0o2 {z : zT} {h g : ph_H} {t : Int32} (R : RCo2 h g) (I : IM z g) (ht : iv 0 3 t) (S : S0co2 t h g) (e18 : h 28 t.toNatClampNeg = g 12 t.toNatClampNeg) {i : Int32} (q0 : h 10 (FX5_firstPart_t t (h 28 t.toNatClampNeg) h).toNatClampNeg = g 2 i.toNatClampNeg) (q1 : h 10 ((FX5_firstPart_t t (h 28 t.toNatClampNeg) h) + 1).toNatClampNeg = g 3 i.toNatClampNeg) (q2 : h 10 ((FX5_firstPart_t t (h 28 t.toNatClampNeg) h) + 2).toNatClampNeg = g 4 i.toNatClampNeg) (q3 : h 10 ((FX5_firstPart_t t (h 28 t.toNatClampNeg) h) + 3).toNatClampNeg = g 5 i.toNatClampNeg) (o : g 2 i.toNatClampNeg = 0) : SIMo2 t (FX3_perform_oc2 t h) (FX12_instruct t i g) := by
  rw [pf_0o2 (q0.trans o) q1 q2 q3, ins_0 o, slot_eq t _ g]
  obtain ⟨s1, s2, s3, s4, s5, s6, s7⟩ := S
  refine fin_goo2 ((R.rso2 rfl).sloto2 (Or.inl rfl)) ?_ (by simp [hs_get]) (by simp [PLp, hs_get, s5, s6]) ?_
  · simp [EFo2, hs_get, s2, s3, s4, s5, s6, s7]
  · simp [hs_get, s1, e18]
theorem lv_sloto2 {h g : ph_H} {k : Nat} (R : RCo2 h g) (hk : k < 28) : g 10 k = 0 ∨ (0 ≤ (g 11 k).toInt ∧ (g 11 k).toInt < (g 0 18).toInt ∧ g 16 (g 11 k).toNatClampNeg = g 10 k) := R.2.2.2.2.2.2.1 k hk
theorem op_1o2 {z : zT} {h g : ph_H} {t : Int32} (R : RCo2 h g) (I : IM z g) (ht : iv 0 3 t) (S : S0co2 t h g) (e18 : h 28 t.toNatClampNeg = g 12 t.toNatClampNeg) {i : Int32} (q0 : h 10 (FX5_firstPart_t t (h 28 t.toNatClampNeg) h).toNatClampNeg = g 2 i.toNatClampNeg) (q1 : h 10 ((FX5_firstPart_t t (h 28 t.toNatClampNeg) h) + 1).toNatClampNeg = g 3 i.toNatClampNeg) (q2 : h 10 ((FX5_firstPart_t t (h 28 t.toNatClampNeg) h) + 2).toNatClampNeg = g 4 i.toNatClampNeg) (q3 : h 10 ((FX5_firstPart_t t (h 28 t.toNatClampNeg) h) + 3).toNatClampNeg = g 5 i.toNatClampNeg) (o : g 2 i.toNatClampNeg = 1) : SIMo2 t (FX3_perform_oc2 t h) (FX12_instruct t i g) := by
  rw [pf_1o2 (q0.trans o) q1 q2 q3, ins_1 o, slot_eq t _ g, fmo12]
  obtain ⟨s1, s2, s3, s4, s5, s6, s7⟩ := S
  unfold FX3_getCell_oc2 FX3_hold_oc2
  obtain ⟨e1, e2⟩ := R.1 _ (m12_lt (g 4 i.toNatClampNeg))
  rw [e1, e2]
  refine fin_goo2 (((R.cso2 (by decide)).rso2 rfl).rso2 rfl |>.sloto2 ?_) ?_ (by simp [hs_get]) (by
    have pm : 0 ≤ (FX12_modulo (g 4 i.toNatClampNeg) 12).toInt := (modulo_iv (m := 12) (hi := 11) rfl).1
    simp [PLp, hs_get, s6, pm]) ?_
  · simpa [hs_get] using lv_sloto2 R (m12_lt (g 4 i.toNatClampNeg))
  · simp [EFo2, hs_get, s2, s3, s4, s5, s6, s7]
  · simp [hs_get, s1, e18]
theorem op_2o2 {z : zT} {h g : ph_H} {t : Int32} (R : RCo2 h g) (I : IM z g) (ht : iv 0 3 t) (S : S0co2 t h g) (e18 : h 28 t.toNatClampNeg = g 12 t.toNatClampNeg) {i : Int32} (q0 : h 10 (FX5_firstPart_t t (h 28 t.toNatClampNeg) h).toNatClampNeg = g 2 i.toNatClampNeg) (q1 : h 10 ((FX5_firstPart_t t (h 28 t.toNatClampNeg) h) + 1).toNatClampNeg = g 3 i.toNatClampNeg) (q2 : h 10 ((FX5_firstPart_t t (h 28 t.toNatClampNeg) h) + 2).toNatClampNeg = g 4 i.toNatClampNeg) (q3 : h 10 ((FX5_firstPart_t t (h 28 t.toNatClampNeg) h) + 3).toNatClampNeg = g 5 i.toNatClampNeg) (o : g 2 i.toNatClampNeg = 2) : SIMo2 t (FX3_perform_oc2 t h) (FX12_instruct t i g) := by
  rw [pf_2o2 (q0.trans o) q1 q2 q3, ins_2 o, slot_eq t _ g, fmo12]
  obtain ⟨s1, s2, s3, s4, s5, s6, s7⟩ := S
  unfold FX3_putCell_oc2 FX3_hold_oc2
  obtain ⟨e1, e2⟩ := R.1 _ (sl_lto2 (a := g 4 i.toNatClampNeg) (g := g) ht)
  rw [e1, e2]
  refine fin_goo2 (((R.cso2 (by decide)).rso2 rfl).rso2 rfl |>.sloto2 ?_) ?_ (by simp [hs_get]) (by
    have pm : 0 ≤ (FX12_modulo (g 3 i.toNatClampNeg) 12).toInt := (modulo_iv (m := 12) (hi := 11) rfl).1
    simp [PLp, hs_get, s5, pm]) ?_
  · simpa [hs_get] using lv_sloto2 R (sl_lto2 (a := g 4 i.toNatClampNeg) (g := g) ht)
  · simp [EFo2, hs_get, s2, s3, s4, s5, s6, s7]
  · simp [hs_get, s1, e18]
theorem op_3o2 {z : zT} {h g : ph_H} {t : Int32} (R : RCo2 h g) (I : IM z g) (ht : iv 0 3 t) (S : S0co2 t h g) (e18 : h 28 t.toNatClampNeg = g 12 t.toNatClampNeg) {i : Int32} (q0 : h 10 (FX5_firstPart_t t (h 28 t.toNatClampNeg) h).toNatClampNeg = g 2 i.toNatClampNeg) (q1 : h 10 ((FX5_firstPart_t t (h 28 t.toNatClampNeg) h) + 1).toNatClampNeg = g 3 i.toNatClampNeg) (q2 : h 10 ((FX5_firstPart_t t (h 28 t.toNatClampNeg) h) + 2).toNatClampNeg = g 4 i.toNatClampNeg) (q3 : h 10 ((FX5_firstPart_t t (h 28 t.toNatClampNeg) h) + 3).toNatClampNeg = g 5 i.toNatClampNeg) (o : g 2 i.toNatClampNeg = 3) : SIMo2 t (FX3_perform_oc2 t h) (FX12_instruct t i g) := by
  rw [pf_3o2 (q0.trans o) q1 q2 q3, slot_eq t _ g, slot_eq t _ g]
  unfold FX3_reckon_oc2 FX3_bothNumbers_oc2 FX3_reckon_oc2_58 FX3_hold_oc2
  obtain ⟨a1, a2⟩ := R.1 _ (sl_lto2 (a := g 3 i.toNatClampNeg) (g := g) ht)
  obtain ⟨b1, b2⟩ := R.1 _ (sl_lto2 (a := g 4 i.toNatClampNeg) (g := g) ht)
  rw [a1, b1, a2, b2]
  by_cases n : g 10 (FX12_local t (g 3 i.toNatClampNeg) g).toNatClampNeg = 0 ∧ g 10 (FX12_local t (g 4 i.toNatClampNeg) g).toNatClampNeg = 0
  · rw [ins_3 o n.1 n.2]
    obtain ⟨s1, s2, s3, s4, s5, s6, s7⟩ := S
    simp (decide := true) only [n.1, n.2, ↓reduceIte]
    refine fin_goo2 ((R.rso2 rfl).sloto2 (Or.inl rfl)) ?_ (by simp [hs_get]) (by simp [PLp, hs_get, s5, s6]) ?_
    · simp [EFo2, hs_get, s2, s3, s4, s5, s6, s7]
    · simp [hs_get, s1, e18]
  · rw [ins_f (w := 1) (by rw [o]; decide) (by rw [o]; exact why3 (by simp) n) (by decide)]
    have : (if g 10 (FX12_local t (g 3 i.toNatClampNeg) g).toNatClampNeg = 0 then (if g 10 (FX12_local t (g 4 i.toNatClampNeg) g).toNatClampNeg = 0 then (1 : Int32) else 0) else 0) = 0 := by
      by_cases c1 : g 10 (FX12_local t (g 3 i.toNatClampNeg) g).toNatClampNeg = 0
      · rw [if_pos c1, if_neg (fun w => n ⟨c1, w⟩)]
      · rw [if_neg c1]
    rw [this, if_pos rfl]
    exact fin_failo2 R S (by decide) (by decide)
theorem op_4o2 {z : zT} {h g : ph_H} {t : Int32} (R : RCo2 h g) (I : IM z g) (ht : iv 0 3 t) (S : S0co2 t h g) (e18 : h 28 t.toNatClampNeg = g 12 t.toNatClampNeg) {i : Int32} (q0 : h 10 (FX5_firstPart_t t (h 28 t.toNatClampNeg) h).toNatClampNeg = g 2 i.toNatClampNeg) (q1 : h 10 ((FX5_firstPart_t t (h 28 t.toNatClampNeg) h) + 1).toNatClampNeg = g 3 i.toNatClampNeg) (q2 : h 10 ((FX5_firstPart_t t (h 28 t.toNatClampNeg) h) + 2).toNatClampNeg = g 4 i.toNatClampNeg) (q3 : h 10 ((FX5_firstPart_t t (h 28 t.toNatClampNeg) h) + 3).toNatClampNeg = g 5 i.toNatClampNeg) (o : g 2 i.toNatClampNeg = 4) : SIMo2 t (FX3_perform_oc2 t h) (FX12_instruct t i g) := by
  rw [pf_4o2 (q0.trans o) q1 q2 q3, slot_eq t _ g, slot_eq t _ g]
  unfold FX3_reckon_oc2 FX3_bothNumbers_oc2 FX3_reckon_oc2_58 FX3_hold_oc2
  obtain ⟨a1, a2⟩ := R.1 _ (sl_lto2 (a := g 3 i.toNatClampNeg) (g := g) ht)
  obtain ⟨b1, b2⟩ := R.1 _ (sl_lto2 (a := g 4 i.toNatClampNeg) (g := g) ht)
  rw [a1, b1, a2, b2]
  by_cases n : g 10 (FX12_local t (g 3 i.toNatClampNeg) g).toNatClampNeg = 0 ∧ g 10 (FX12_local t (g 4 i.toNatClampNeg) g).toNatClampNeg = 0
  · rw [ins_4 o n.1 n.2]
    obtain ⟨s1, s2, s3, s4, s5, s6, s7⟩ := S
    simp (decide := true) only [n.1, n.2, ↓reduceIte]
    refine fin_goo2 ((R.rso2 rfl).sloto2 (Or.inl rfl)) ?_ (by simp [hs_get]) (by simp [PLp, hs_get, s5, s6]) ?_
    · simp [EFo2, hs_get, s2, s3, s4, s5, s6, s7]
    · simp [hs_get, s1, e18]
  · rw [ins_f (w := 1) (by rw [o]; decide) (by rw [o]; exact why3 (by simp) n) (by decide)]
    have : (if g 10 (FX12_local t (g 3 i.toNatClampNeg) g).toNatClampNeg = 0 then (if g 10 (FX12_local t (g 4 i.toNatClampNeg) g).toNatClampNeg = 0 then (1 : Int32) else 0) else 0) = 0 := by
      by_cases c1 : g 10 (FX12_local t (g 3 i.toNatClampNeg) g).toNatClampNeg = 0
      · rw [if_pos c1, if_neg (fun w => n ⟨c1, w⟩)]
      · rw [if_neg c1]
    rw [this, if_pos rfl]
    exact fin_failo2 R S (by decide) (by decide)
theorem op_5o2 {z : zT} {h g : ph_H} {t : Int32} (R : RCo2 h g) (I : IM z g) (ht : iv 0 3 t) (S : S0co2 t h g) (e18 : h 28 t.toNatClampNeg = g 12 t.toNatClampNeg) {i : Int32} (q0 : h 10 (FX5_firstPart_t t (h 28 t.toNatClampNeg) h).toNatClampNeg = g 2 i.toNatClampNeg) (q1 : h 10 ((FX5_firstPart_t t (h 28 t.toNatClampNeg) h) + 1).toNatClampNeg = g 3 i.toNatClampNeg) (q2 : h 10 ((FX5_firstPart_t t (h 28 t.toNatClampNeg) h) + 2).toNatClampNeg = g 4 i.toNatClampNeg) (q3 : h 10 ((FX5_firstPart_t t (h 28 t.toNatClampNeg) h) + 3).toNatClampNeg = g 5 i.toNatClampNeg) (o : g 2 i.toNatClampNeg = 5) : SIMo2 t (FX3_perform_oc2 t h) (FX12_instruct t i g) := by
  rw [pf_5o2 (q0.trans o) q1 q2 q3, slot_eq t _ g, slot_eq t _ g]
  unfold FX3_reckon_oc2 FX3_bothNumbers_oc2 FX3_reckon_oc2_58 FX3_hold_oc2
  obtain ⟨a1, a2⟩ := R.1 _ (sl_lto2 (a := g 3 i.toNatClampNeg) (g := g) ht)
  obtain ⟨b1, b2⟩ := R.1 _ (sl_lto2 (a := g 4 i.toNatClampNeg) (g := g) ht)
  rw [a1, b1, a2, b2]
  by_cases n : g 10 (FX12_local t (g 3 i.toNatClampNeg) g).toNatClampNeg = 0 ∧ g 10 (FX12_local t (g 4 i.toNatClampNeg) g).toNatClampNeg = 0
  · rw [ins_5 o n.1 n.2]
    obtain ⟨s1, s2, s3, s4, s5, s6, s7⟩ := S
    simp (decide := true) only [n.1, n.2, ↓reduceIte]
    refine fin_goo2 ((R.rso2 rfl).sloto2 (Or.inl rfl)) ?_ (by simp [hs_get]) (by simp [PLp, hs_get, s5, s6]) ?_
    · simp [EFo2, hs_get, s2, s3, s4, s5, s6, s7]
    · simp [hs_get, s1, e18]
  · rw [ins_f (w := 1) (by rw [o]; decide) (by rw [o]; exact why3 (by simp) n) (by decide)]
    have : (if g 10 (FX12_local t (g 3 i.toNatClampNeg) g).toNatClampNeg = 0 then (if g 10 (FX12_local t (g 4 i.toNatClampNeg) g).toNatClampNeg = 0 then (1 : Int32) else 0) else 0) = 0 := by
      by_cases c1 : g 10 (FX12_local t (g 3 i.toNatClampNeg) g).toNatClampNeg = 0
      · rw [if_pos c1, if_neg (fun w => n ⟨c1, w⟩)]
      · rw [if_neg c1]
    rw [this, if_pos rfl]
    exact fin_failo2 R S (by decide) (by decide)
theorem op_6o2 {z : zT} {h g : ph_H} {t : Int32} (R : RCo2 h g) (I : IM z g) (ht : iv 0 3 t) (S : S0co2 t h g) (e18 : h 28 t.toNatClampNeg = g 12 t.toNatClampNeg) {i : Int32} (q0 : h 10 (FX5_firstPart_t t (h 28 t.toNatClampNeg) h).toNatClampNeg = g 2 i.toNatClampNeg) (q1 : h 10 ((FX5_firstPart_t t (h 28 t.toNatClampNeg) h) + 1).toNatClampNeg = g 3 i.toNatClampNeg) (q2 : h 10 ((FX5_firstPart_t t (h 28 t.toNatClampNeg) h) + 2).toNatClampNeg = g 4 i.toNatClampNeg) (q3 : h 10 ((FX5_firstPart_t t (h 28 t.toNatClampNeg) h) + 3).toNatClampNeg = g 5 i.toNatClampNeg) (o : g 2 i.toNatClampNeg = 6) : SIMo2 t (FX3_perform_oc2 t h) (FX12_instruct t i g) := by
  rw [pf_6o2 (q0.trans o) q1 q2 q3, ins_6 o]
  obtain ⟨s1, s2, s3, s4, s5, s6, s7⟩ := S
  unfold FX3_goTo_oc2
  refine fin_goo2 ((R.cso2 (by decide)).rso2 rfl) ?_ (by simp [hs_get]) (by simp [PLp, hs_get, s5, s6]) ?_
  · simp [EFo2, hs_get, s2, s3, s4, s5, s6, s7]
  · simp [hs_get]
theorem op_7o2 {z : zT} {h g : ph_H} {t : Int32} (R : RCo2 h g) (I : IM z g) (ht : iv 0 3 t) (S : S0co2 t h g) (e18 : h 28 t.toNatClampNeg = g 12 t.toNatClampNeg) {i : Int32} (q0 : h 10 (FX5_firstPart_t t (h 28 t.toNatClampNeg) h).toNatClampNeg = g 2 i.toNatClampNeg) (q1 : h 10 ((FX5_firstPart_t t (h 28 t.toNatClampNeg) h) + 1).toNatClampNeg = g 3 i.toNatClampNeg) (q2 : h 10 ((FX5_firstPart_t t (h 28 t.toNatClampNeg) h) + 2).toNatClampNeg = g 4 i.toNatClampNeg) (q3 : h 10 ((FX5_firstPart_t t (h 28 t.toNatClampNeg) h) + 3).toNatClampNeg = g 5 i.toNatClampNeg) (o : g 2 i.toNatClampNeg = 7) : SIMo2 t (FX3_perform_oc2 t h) (FX12_instruct t i g) := by
  rw [pf_7o2 (q0.trans o) q1 q2 q3, slot_eq t _ g]
  unfold FX3_goUnless_oc2 FX3_goUnless_oc2_25 FX3_goTo_oc2
  obtain ⟨a1, a2⟩ := R.1 _ (sl_lto2 (a := g 3 i.toNatClampNeg) (g := g) ht)
  rw [a1, a2]
  by_cases c1 : g 10 (FX12_local t (g 3 i.toNatClampNeg) g).toNatClampNeg = 0
  · rw [if_pos c1]
    by_cases c2 : g 11 (FX12_local t (g 3 i.toNatClampNeg) g).toNatClampNeg = 0
    · rw [if_pos c2, ins_7j o c1 c2]
      obtain ⟨s1, s2, s3, s4, s5, s6, s7⟩ := S
      refine fin_goo2 ((R.cso2 (by decide)).rso2 rfl) ?_ (by simp [hs_get]) (by simp [PLp, hs_get, s5, s6]) ?_
      · simp [EFo2, hs_get, s2, s3, s4, s5, s6, s7]
      · simp [hs_get]
    · rw [if_neg c2, ins_7n o c1 c2]
      obtain ⟨s1, s2, s3, s4, s5, s6, s7⟩ := S
      refine fin_goo2 (R.rso2 rfl) ?_ (by simp [hs_get]) (by simp [PLp, hs_get, s5, s6]) ?_
      · simp [EFo2, hs_get, s2, s3, s4, s5, s6, s7]
      · simp [hs_get, s1, e18]
  · rw [if_neg c1, ins_f (w := 1) (by rw [o]; decide) (by rw [o]; unfold FX12_why; simp (decide := true) only [c1, ↓reduceIte]) (by decide)]
    exact fin_failo2 R S (by decide) (by decide)
theorem op_18o2 {z : zT} {h g : ph_H} {t : Int32} (R : RCo2 h g) (I : IM z g) (ht : iv 0 3 t) (S : S0co2 t h g) (e18 : h 28 t.toNatClampNeg = g 12 t.toNatClampNeg) {i : Int32} (q0 : h 10 (FX5_firstPart_t t (h 28 t.toNatClampNeg) h).toNatClampNeg = g 2 i.toNatClampNeg) (q1 : h 10 ((FX5_firstPart_t t (h 28 t.toNatClampNeg) h) + 1).toNatClampNeg = g 3 i.toNatClampNeg) (q2 : h 10 ((FX5_firstPart_t t (h 28 t.toNatClampNeg) h) + 2).toNatClampNeg = g 4 i.toNatClampNeg) (q3 : h 10 ((FX5_firstPart_t t (h 28 t.toNatClampNeg) h) + 3).toNatClampNeg = g 5 i.toNatClampNeg) (o : g 2 i.toNatClampNeg = 18) : SIMo2 t (FX3_perform_oc2 t h) (FX12_instruct t i g) := by
  rw [pf_18o2 (q0.trans o) q1 q2 q3, fmo10]
  have f : iv 0 9 (FX12_modulo (g 4 i.toNatClampNeg) 10) := modulo_iv (m := 10) rfl
  have f2 : iv 10 19 (10 + FX12_modulo (g 4 i.toNatClampNeg) 10) := iv_add (a := 10) (b := 10) (iv_lit rfl) f rfl
  rw [ins_f (w := 10 + FX12_modulo (g 4 i.toNatClampNeg) 10) (by rw [o]; decide) (by rw [o]; unfold FX12_why; simp (decide := true) only [↓reduceIte]) (fun w => by
    rw [Int32.le_iff_toInt_le] at w
    have h0 : (0 : Int32).toInt = 0 := by decide
    unfold iv at f2
    omega)]
  exact fin_failo2 R S (iv_ne0 f2 rfl) (by
    unfold iv at f2
    omega)
theorem op_19o2 {z : zT} {h g : ph_H} {t : Int32} (R : RCo2 h g) (I : IM z g) (ht : iv 0 3 t) (S : S0co2 t h g) (e18 : h 28 t.toNatClampNeg = g 12 t.toNatClampNeg) {i : Int32} (q0 : h 10 (FX5_firstPart_t t (h 28 t.toNatClampNeg) h).toNatClampNeg = g 2 i.toNatClampNeg) (q1 : h 10 ((FX5_firstPart_t t (h 28 t.toNatClampNeg) h) + 1).toNatClampNeg = g 3 i.toNatClampNeg) (q2 : h 10 ((FX5_firstPart_t t (h 28 t.toNatClampNeg) h) + 2).toNatClampNeg = g 4 i.toNatClampNeg) (q3 : h 10 ((FX5_firstPart_t t (h 28 t.toNatClampNeg) h) + 3).toNatClampNeg = g 5 i.toNatClampNeg) (o : g 2 i.toNatClampNeg = 19) : SIMo2 t (FX3_perform_oc2 t h) (FX12_instruct t i g) := by
  rw [pf_19o2 (q0.trans o) q1 q2 q3, ins_19 o]
  obtain ⟨s1, s2, s3, s4, s5, s6, s7⟩ := S
  unfold FX3_goTo_oc2
  refine fin_goo2 ((R.cso2 (by decide)).rso2 rfl) ?_ (by simp [hs_get]) (by simp [PLp, hs_get, s5, s6]) ?_
  · simp [EFo2, hs_get, s2, s3, s4, s5, s6, s7]
  · simp [hs_get]
end MG_48_x15A5o2
section MG_48_x16A6o2
theorem gate_eqo2 {h g : ph_H} {k : Int32} (R : RCo2 h g) (hk : k.toNatClampNeg < 28) : FX3_gateIn_oc2 k h = if g 10 k.toNatClampNeg = 3 then g 11 k.toNatClampNeg else -1 := by
  obtain ⟨e1, e2⟩ := R.1 _ hk
  unfold FX3_gateIn_oc2
  rw [e1, e2]
theorem op_12o2 {z : zT} {h g : ph_H} {t : Int32} (R : RCo2 h g) (I : IM z g) (ht : iv 0 3 t) (S : S0co2 t h g) (e18 : h 28 t.toNatClampNeg = g 12 t.toNatClampNeg) {i : Int32} (q0 : h 10 (FX5_firstPart_t t (h 28 t.toNatClampNeg) h).toNatClampNeg = g 2 i.toNatClampNeg) (q1 : h 10 ((FX5_firstPart_t t (h 28 t.toNatClampNeg) h) + 1).toNatClampNeg = g 3 i.toNatClampNeg) (q2 : h 10 ((FX5_firstPart_t t (h 28 t.toNatClampNeg) h) + 2).toNatClampNeg = g 4 i.toNatClampNeg) (q3 : h 10 ((FX5_firstPart_t t (h 28 t.toNatClampNeg) h) + 3).toNatClampNeg = g 5 i.toNatClampNeg) (o : g 2 i.toNatClampNeg = 12) : SIMo2 t (FX3_perform_oc2 t h) (FX12_instruct t i g) := by
  rw [pf_12o2 (q0.trans o) q1 q2 q3, slot_eq t _ g]
  unfold FX3_takeLock_oc2 FX3_own_oc2
  rw [lock_eqo2 R (sl_lto2 ht)]
  by_cases l : FX12_isLock (FX12_local t (g 3 i.toNatClampNeg) g) g = 0
  · rw [ins_f (w := 1) (by rw [o]; decide) (by rw [o]; unfold FX12_why; simp (decide := true) only [l, ↓reduceIte]) (by decide)]
    simp (decide := true) only [l, le_n1, ↓reduceIte]
    exact fin_failo2 R S (by decide) (by decide)
  · have l0 := isLock_to2 l
    have lo := own_ato2 R (sl_lto2 ht) l0
    obtain ⟨a, b, c⟩ := refso2 R (sl_lto2 ht) l0
    have nn := nn_le (x := g 11 (FX12_local t (g 3 i.toNatClampNeg) g).toNatClampNeg) (by omega)
    simp (decide := true) only [l, nn, ↓reduceIte]
    by_cases u : g 17 (g 11 (FX12_local t (g 3 i.toNatClampNeg) g).toNatClampNeg).toNatClampNeg = t
    · rw [ins_f (w := 5) (by rw [o]; decide) (by rw [o]; unfold FX12_why; simp (decide := true) only [l, u, ↓reduceIte]) (by decide), if_pos ((OW_own lo ht).mpr u)]
      exact fin_failo2 R S (by decide) (by decide)
    · rw [if_neg (fun w => u ((OW_own lo ht).mp w)), ins_12 o l u]
      obtain ⟨s1, s2, s3, s4, s5, s6, s7⟩ := S
      refine fin_goo2 (((((R.rso2 rfl).owno2 (Or.inr ⟨rfl, ht⟩)).cso2 (by decide)).cso2 (by decide)).rso2 rfl |>.rso2 rfl) ?_ (by simp [hs_get]) (by simp [PLp, hs_get, s5, s6]) ?_
      · simp [EFo2, hs_get, s2, s3, s4, s5, s6, s7]
      · simp [hs_get, s1, e18]
theorem op_13o2 {z : zT} {h g : ph_H} {t : Int32} (R : RCo2 h g) (I : IM z g) (ht : iv 0 3 t) (S : S0co2 t h g) (e18 : h 28 t.toNatClampNeg = g 12 t.toNatClampNeg) {i : Int32} (q0 : h 10 (FX5_firstPart_t t (h 28 t.toNatClampNeg) h).toNatClampNeg = g 2 i.toNatClampNeg) (q1 : h 10 ((FX5_firstPart_t t (h 28 t.toNatClampNeg) h) + 1).toNatClampNeg = g 3 i.toNatClampNeg) (q2 : h 10 ((FX5_firstPart_t t (h 28 t.toNatClampNeg) h) + 2).toNatClampNeg = g 4 i.toNatClampNeg) (q3 : h 10 ((FX5_firstPart_t t (h 28 t.toNatClampNeg) h) + 3).toNatClampNeg = g 5 i.toNatClampNeg) (o : g 2 i.toNatClampNeg = 13) : SIMo2 t (FX3_perform_oc2 t h) (FX12_instruct t i g) := by
  rw [pf_13o2 (q0.trans o) q1 q2 q3, slot_eq t _ g]
  unfold FX3_leaveLock_oc2 FX3_free_oc2
  rw [lock_eqo2 R (sl_lto2 ht)]
  by_cases l : FX12_isLock (FX12_local t (g 3 i.toNatClampNeg) g) g = 0
  · rw [ins_f (w := 1) (by rw [o]; decide) (by rw [o]; unfold FX12_why; simp (decide := true) only [l, ↓reduceIte]) (by decide)]
    simp (decide := true) only [l, le_n1, ↓reduceIte]
    exact fin_failo2 R S (by decide) (by decide)
  · have l0 := isLock_to2 l
    have lo := own_ato2 R (sl_lto2 ht) l0
    obtain ⟨a, b, c⟩ := refso2 R (sl_lto2 ht) l0
    have nn := nn_le (x := g 11 (FX12_local t (g 3 i.toNatClampNeg) g).toNatClampNeg) (by omega)
    simp (decide := true) only [l, nn, ↓reduceIte]
    by_cases u : g 17 (g 11 (FX12_local t (g 3 i.toNatClampNeg) g).toNatClampNeg).toNatClampNeg = t
    · rw [if_pos ((OW_own lo ht).mpr u), ins_13 o l u]
      obtain ⟨s1, s2, s3, s4, s5, s6, s7⟩ := S
      refine fin_goo2 (((((R.rso2 rfl).owno2 (Or.inl ⟨rfl, rfl⟩)).cso2 (by decide)).cso2 (by decide)).rso2 rfl |>.rso2 rfl) ?_ (by simp [hs_get]) (by simp [PLp, hs_get, s5, s6]) ?_
      · simp [EFo2, hs_get, s2, s3, s4, s5, s6, s7]
      · simp [hs_get, s1, e18]
    · rw [ins_f (w := 6) (by rw [o]; decide) (by rw [o]; unfold FX12_why; simp (decide := true) only [l, u, ↓reduceIte]) (by decide), if_neg (fun w => u ((OW_own lo ht).mp w))]
      exact fin_failo2 R S (by decide) (by decide)
theorem op_14o2 {z : zT} {h g : ph_H} {t : Int32} (R : RCo2 h g) (I : IM z g) (ht : iv 0 3 t) (S : S0co2 t h g) (e18 : h 28 t.toNatClampNeg = g 12 t.toNatClampNeg) (m1 : h 29 t.toNatClampNeg = 1) {i : Int32} (q0 : h 10 (FX5_firstPart_t t (h 28 t.toNatClampNeg) h).toNatClampNeg = g 2 i.toNatClampNeg) (q1 : h 10 ((FX5_firstPart_t t (h 28 t.toNatClampNeg) h) + 1).toNatClampNeg = g 3 i.toNatClampNeg) (q2 : h 10 ((FX5_firstPart_t t (h 28 t.toNatClampNeg) h) + 2).toNatClampNeg = g 4 i.toNatClampNeg) (q3 : h 10 ((FX5_firstPart_t t (h 28 t.toNatClampNeg) h) + 3).toNatClampNeg = g 5 i.toNatClampNeg) (o : g 2 i.toNatClampNeg = 14) : SIMo2 t (FX3_perform_oc2 t h) (FX12_instruct t i g) := by
  rw [pf_14o2 (q0.trans o) q1 q2 q3, slot_eq t _ g]
  unfold FX3_lieDown_oc2 FX3_free_oc2
  rw [gate_eqo2 R (sl_lto2 ht)]
  by_cases l : g 10 (FX12_local t (g 3 i.toNatClampNeg) g).toNatClampNeg = 3
  · have l0 : ¬ g 10 (FX12_local t (g 3 i.toNatClampNeg) g).toNatClampNeg = 0 := fun w => absurd (w.symm.trans l) (by decide)
    have lo := own_ato2 R (sl_lto2 ht) l0
    obtain ⟨a, b, c⟩ := refso2 R (sl_lto2 ht) l0
    have nn := nn_le (x := g 11 (FX12_local t (g 3 i.toNatClampNeg) g).toNatClampNeg) (by omega)
    have tn := th_nn I
    simp (decide := true) only [l, nn, ↓reduceIte]
    by_cases u : g 17 (g 11 (FX12_local t (g 3 i.toNatClampNeg) g).toNatClampNeg).toNatClampNeg = t
    · rw [if_pos ((OW_own lo ht).mpr u), ins_14 o l u]
      have s1 := S.1
      obtain ⟨s1, s2, s3, s4, s5, s6, s7⟩ := S
      have R1 := (R.rso2 (i := 25) (v := 0) rfl).lieo2 (z := z) (q := g 11 (FX12_local t (g 3 i.toNatClampNeg) g).toNatClampNeg) (IMs I (iv_any _) rfl) (t_lto2 ht) m1 ⟨by omega, by omega⟩ (by rw [hs_o (by simp)]; omega)
      have R2 := (R1.cso2 (i := 13) (v := h 28 t.toNatClampNeg) (by decide)).owno2 (x := (g 11 (FX12_local t (g 3 i.toNatClampNeg) g).toNatClampNeg).toNatClampNeg) (c := -2) (r := -1) (Or.inl ⟨rfl, rfl⟩)
      have R3 := (((R2.cso2 (i := 16) (v := 2) (by decide)).cso2 (i := 17) (v := g 11 (FX12_local t (g 3 i.toNatClampNeg) g).toNatClampNeg) (by decide)).rso2 (i := 31) (v := 2) rfl).rso2 (i := 32) (v := g 11 (FX12_local t (g 3 i.toNatClampNeg) g).toNatClampNeg) rfl
      rw [hs_comm _ 14 _ _ 17 _ _ (Or.inl (by decide))] at R3
      refine fin_stayo2 R3 ?_ (by simp [hs_get]) (by simp [PLp, hs_get, s5, s6]) ?_
      · simp [EFo2, hs_get, s2, s3, s4, s5, s6, s7]
      · have := R.2.1 _ (t_lto2 ht)
        simpa [hs_get] using this
    · rw [ins_f (w := 6) (by rw [o]; decide) (by rw [o]; unfold FX12_why; simp (decide := true) only [l, u, ↓reduceIte]) (by decide), if_neg (fun w => u ((OW_own lo ht).mp w))]
      exact fin_failo2 R S (by decide) (by decide)
  · rw [ins_f (w := 1) (by rw [o]; decide) (by rw [o]; unfold FX12_why; simp (decide := true) only [l, ↓reduceIte]) (by decide)]
    simp (decide := true) only [l, le_n1, ↓reduceIte]
    exact fin_failo2 R S (by decide) (by decide)
theorem op_16o2 {z : zT} {h g : ph_H} {t : Int32} (R : RCo2 h g) (I : IM z g) (ht : iv 0 3 t) (S : S0co2 t h g) (e18 : h 28 t.toNatClampNeg = g 12 t.toNatClampNeg) (kk : ¬ g 0 33 = 0 → ¬ g 0 23 = g 0 34) {i : Int32} (q0 : h 10 (FX5_firstPart_t t (h 28 t.toNatClampNeg) h).toNatClampNeg = g 2 i.toNatClampNeg) (q1 : h 10 ((FX5_firstPart_t t (h 28 t.toNatClampNeg) h) + 1).toNatClampNeg = g 3 i.toNatClampNeg) (q2 : h 10 ((FX5_firstPart_t t (h 28 t.toNatClampNeg) h) + 2).toNatClampNeg = g 4 i.toNatClampNeg) (q3 : h 10 ((FX5_firstPart_t t (h 28 t.toNatClampNeg) h) + 3).toNatClampNeg = g 5 i.toNatClampNeg) (o : g 2 i.toNatClampNeg = 16) : SIMo2 t (FX3_perform_oc2 t h) (FX12_instruct t i g) := by
  rw [pf_16o2 (q0.trans o) q1 q2 q3, slot_eq t _ g]
  unfold FX3_takeInput_oc2 FX3_hold_oc2
  obtain ⟨i1, i2, i3, i4⟩ := R.2.2.2.2.1
  rw [i1, i2]
  have t30 : iv 0 30 (g 0 23) := IMv I 0 23
  have t7 : iv 0 30 (g 0 7) := IMv I 0 7
  have t34 : iv 0 30 (g 0 34) := IMv I 0 34
  have k1 : (1 : Int32).toInt = 1 := by decide
  have k30 : (30 : Int32).toInt = 30 := by decide
  have tn := iv_nat t30 rfl
  unfold iv at t30 t7 t34
  have e1 : g 0 23 + 1 - 1 = g 0 23 := tI (by rw [ti_sub, ti_add] <;> (try rw [ti_add]) <;> omega)
  have e2 : (g 0 23 + 1).toInt = (g 0 23).toInt + 1 := by rw [ti_add (by omega) (by omega), k1]
  have kb : (kn g).toInt ≤ 30 := by unfold kn; split <;> omega
  rw [e1]
  by_cases f : kn g ≤ g 0 23
  · rw [if_pos f]
    rw [Int32.le_iff_toInt_le] at f
    have eq : g 0 23 = kn g := tI (by omega)
    by_cases c : g 0 33 = 0
    · have : g 0 23 = g 0 7 := by rw [eq]; unfold kn; rw [if_pos c]
      rw [ins_f (w := 7) (by rw [o]; decide) (by rw [o]; unfold FX12_why; simp (decide := true) only [c, this, ↓reduceIte]) (by decide)]
      exact fin_failo2 R S (by decide) (by decide)
    · exact absurd (by rw [eq]; unfold kn; rw [if_neg c]) (kk c)
  · rw [if_neg f]
    rw [Int32.le_iff_toInt_le] at f
    have lt : g 0 23 < 30 := by rw [Int32.lt_iff_toInt_lt, k30]; omega
    rw [if_pos lt, i4 _ (by omega)]
    obtain ⟨s1, s2, s3, s4, s5, s6, s7⟩ := S
    by_cases c : g 0 33 = 0
    · have n7 : ¬ g 0 23 = g 0 7 := fun w => f (by unfold kn; rw [if_pos c, w]; omega)
      rw [ins_16u o c n7]
      unfold vi
      rw [if_pos c]
      have R1 := ((R.rso2 (i := 25) (v := 0) rfl).takeo2 (v := g 0 23 + 1) (by
        have : kn (hs g 0 25 0) = kn g := by unfold kn; simp [hs_get]
        rw [this]; omega)).sloto2 (k := (FX12_local t (g 3 i.toNatClampNeg) g).toNatClampNeg) (kd := 0) (v := g 7 (g 0 23).toNatClampNeg) (Or.inl rfl)
      rw [hs_comm _ 0 23 _ 10 _ _ (Or.inl (by decide)), hs_comm _ 0 23 _ 11 _ _ (Or.inl (by decide))] at R1
      refine fin_goo2 R1 ?_ (by simp [hs_get]) (by simp [PLp, hs_get, s5, s6]) ?_
      · simp [EFo2, hs_get, s2, s3, s4, s5, s6, s7]
      · simp [hs_get, s1, e18]
    · rw [ins_16k o c]
      unfold vi
      rw [if_neg c]
      have R1 := ((R.rso2 (i := 25) (v := 0) rfl).takeo2 (v := g 0 23 + 1) (by
        have : kn (hs g 0 25 0) = kn g := by unfold kn; simp [hs_get]
        rw [this]; omega)).sloto2 (k := (FX12_local t (g 3 i.toNatClampNeg) g).toNatClampNeg) (kd := 0) (v := g 36 (g 0 23).toNatClampNeg) (Or.inl rfl)
      rw [hs_comm _ 0 23 _ 10 _ _ (Or.inl (by decide)), hs_comm _ 0 23 _ 11 _ _ (Or.inl (by decide))] at R1
      refine fin_goo2 R1 ?_ (by simp [hs_get]) (by simp [PLp, hs_get, s5, s6]) ?_
      · simp [EFo2, hs_get, s2, s3, s4, s5, s6, s7]
      · simp [hs_get, s1, e18]
theorem op_17o2 {z : zT} {h g : ph_H} {t : Int32} (R : RCo2 h g) (I : IM z g) (ht : iv 0 3 t) (S : S0co2 t h g) (e18 : h 28 t.toNatClampNeg = g 12 t.toNatClampNeg) {i : Int32} (q0 : h 10 (FX5_firstPart_t t (h 28 t.toNatClampNeg) h).toNatClampNeg = g 2 i.toNatClampNeg) (q1 : h 10 ((FX5_firstPart_t t (h 28 t.toNatClampNeg) h) + 1).toNatClampNeg = g 3 i.toNatClampNeg) (q2 : h 10 ((FX5_firstPart_t t (h 28 t.toNatClampNeg) h) + 2).toNatClampNeg = g 4 i.toNatClampNeg) (q3 : h 10 ((FX5_firstPart_t t (h 28 t.toNatClampNeg) h) + 3).toNatClampNeg = g 5 i.toNatClampNeg) (o : g 2 i.toNatClampNeg = 17) : SIMo2 t (FX3_perform_oc2 t h) (FX12_instruct t i g) := by
  rw [pf_17o2 (q0.trans o) q1 q2 q3, fmo4]
  unfold FX3_startThread_oc2
  by_cases c : h 29 (FX12_modulo (g 3 i.toNatClampNeg) 4).toNatClampNeg = 0
  · have m := MD0 (R.2.2.1 _ (m4_lt (g 3 i.toNatClampNeg))) c
    rw [if_pos c, ins_17 o m.1]
    obtain ⟨s1, s2, s3, s4, s5, s6, s7⟩ := S
    have R1 := ((((R.rso2 (i := 25) (v := 0) rfl).starto2 (z := z) (IMs I (iv_any _) rfl) (m4_lt (g 3 i.toNatClampNeg)) c).cso2 (i := 16) (v := 4) (by decide)).cso2 (i := 17) (v := FX12_modulo (g 3 i.toNatClampNeg) 4) (by decide)).rso2 (i := 31) (v := 4) rfl |>.rso2 (i := 32) (v := FX12_modulo (g 3 i.toNatClampNeg) 4) rfl
    refine fin_goo2 R1 ?_ (by simp [hs_get]) (by simp [PLp, hs_get, s5, s6]) ?_
    · simp [EFo2, hs_get, s2, s3, s4, s5, s6, s7]
    · simp [hs_get, s1, e18]
  · rw [if_neg c, ins_17f o (by
      rcases R.2.2.1 _ (m4_lt (g 3 i.toNatClampNeg)) with ⟨a, b⟩ | ⟨a, b, _⟩ | ⟨a, b, _⟩ | ⟨a, b, _⟩
      · exact absurd a c
      all_goals rw [b]; decide)]
    exact fin_failo2 R S (by decide) (by decide)
end MG_48_x16A6o2
section MG_48_x17A7o2
/-! places of rows -/
theorem rowp_eqo2 {z : zT} {h g : ph_H} {b : Nat} {v : Int32} (R : RCo2 h g) (I : IM z g) (hb : b < 28) (k : g 10 b = 1) : (FX3_hasRowPlace_oc2 (g 11 b) v h = 0) = (FX12_isIn v.toInt64 0 ((g 18 (g 11 b).toNatClampNeg - 1).toInt64) = 0) := by
  have k0 : ¬ g 10 b = 0 := fun w => absurd (w.symm.trans k) (by decide)
  obtain ⟨a1, a2, a3⟩ := refso2 R hb k0
  have s16 : iv 0 16 (g 18 (g 11 b).toNatClampNeg) := IMv I 18 _
  obtain ⟨t1, t2⟩ := R.2.2.2.1
  obtain ⟨u1, u2, u3, u4⟩ := t2 _ a2
  have h0 : (0 : Int32).toInt = 0 := by decide
  apply propext
  rw [rowp_iff s16]
  unfold FX3_hasRowPlace_oc2
  have c1 := nn_t (x := g 11 b) (by omega)
  have c2 : ¬ g 0 18 ≤ g 11 b := by rw [Int32.le_iff_toInt_le]; omega
  simp (decide := true) only [t1, u1, u2, a3, k, c1, c2, ↓reduceIte]
  by_cases d : v < 0
  · rw [if_pos d]
    rw [Int32.lt_iff_toInt_lt] at d
    exact ⟨fun _ => by omega, fun _ => rfl⟩
  · rw [if_neg d]
    have d1 := nlt d
    rw [Int32.le_iff_toInt_le] at d1
    by_cases e : g 18 (g 11 b).toNatClampNeg ≤ v
    · rw [if_pos e]
      rw [Int32.le_iff_toInt_le] at e
      exact ⟨fun _ => by omega, fun _ => rfl⟩
    · rw [if_neg e]
      rw [Int32.le_iff_toInt_le] at e
      exact ⟨fun w => absurd w (by decide), fun w => by omega⟩
theorem op_9o2 {z : zT} {h g : ph_H} {t : Int32} (R : RCo2 h g) (I : IM z g) (ht : iv 0 3 t) (S : S0co2 t h g) (e18 : h 28 t.toNatClampNeg = g 12 t.toNatClampNeg) {i : Int32} (q0 : h 10 (FX5_firstPart_t t (h 28 t.toNatClampNeg) h).toNatClampNeg = g 2 i.toNatClampNeg) (q1 : h 10 ((FX5_firstPart_t t (h 28 t.toNatClampNeg) h) + 1).toNatClampNeg = g 3 i.toNatClampNeg) (q2 : h 10 ((FX5_firstPart_t t (h 28 t.toNatClampNeg) h) + 2).toNatClampNeg = g 4 i.toNatClampNeg) (q3 : h 10 ((FX5_firstPart_t t (h 28 t.toNatClampNeg) h) + 3).toNatClampNeg = g 5 i.toNatClampNeg) (o : g 2 i.toNatClampNeg = 9) : SIMo2 t (FX3_perform_oc2 t h) (FX12_instruct t i g) := by
  rw [pf_9o2 (q0.trans o) q1 q2 q3, slot_eq t _ g, slot_eq t _ g, slot_eq t _ g]
  unfold FX3_readRow_oc2 FX3_hold_oc2
  obtain ⟨b1, b2⟩ := R.1 _ (sl_lto2 (a := g 4 i.toNatClampNeg) (g := g) ht)
  obtain ⟨d1, d2⟩ := R.1 _ (sl_lto2 (a := g 5 i.toNatClampNeg) (g := g) ht)
  rw [b1, b2, d1, d2]
  by_cases c1 : g 10 (FX12_local t (g 4 i.toNatClampNeg) g).toNatClampNeg = 1
  · by_cases c2 : g 10 (FX12_local t (g 5 i.toNatClampNeg) g).toNatClampNeg = 0
    · have pe := rowp_eqo2 (v := g 11 (FX12_local t (g 5 i.toNatClampNeg) g).toNatClampNeg) R I (sl_lto2 (a := g 4 i.toNatClampNeg) (g := g) ht) c1
      rw [if_pos c1, if_pos c2]
      by_cases c3 : FX12_isIn (g 11 (FX12_local t (g 5 i.toNatClampNeg) g).toNatClampNeg).toInt64 0 ((g 18 (g 11 (FX12_local t (g 4 i.toNatClampNeg) g).toNatClampNeg).toNatClampNeg) - 1).toInt64 = 0
      · rw [if_pos (pe.mpr c3), ins_f (w := 4) (by rw [o]; decide) (by rw [o]; unfold FX12_why; simp (decide := true) only [c1, c2, c3, ↓reduceIte]) (by decide)]
        exact fin_failo2 R S (by decide) (by decide)
      · rw [if_neg (fun w => c3 (pe.mp w)), ins_9 o c1 c2 c3]
        obtain ⟨v1, v2⟩ := rowp_in I c3
        obtain ⟨a1, a2, a3⟩ := refso2 R (sl_lto2 (a := g 4 i.toNatClampNeg) (g := g) ht) (fun w => absurd (w.symm.trans c1) (by decide))
        have tn := th_nn I
        have xi : iv 0 11 (g 11 (FX12_local t (g 4 i.toNatClampNeg) g).toNatClampNeg) := ⟨by omega, by omega⟩
        have rw1 := (R.2.2.2.1.2 _ a2).2.2.2 _ v2
        rw [Int32.mul_comm (g 11 (FX12_local t (g 4 i.toNatClampNeg) g).toNatClampNeg) 16, Int32.mul_comm (g 11 (FX12_local t (g 4 i.toNatClampNeg) g).toNatClampNeg) 20, rp_ix xi v1, rw1]
        obtain ⟨s1, s2, s3, s4, s5, s6, s7⟩ := S
        refine fin_goo2 (((R.rso2 (i := 25) (v := 0) rfl).cso2 (by decide)).rso2 rfl |>.sloto2 (Or.inl rfl)) ?_ (by simp [hs_get]) (by
          refine ⟨Or.inr ?_, Or.inl ?_⟩
          · rw [hs_o (by simp), hs_o (by simp), hs_self]
            exact pl_row xi v1
          · rw [hs_o (by simp), hs_o (by simp), hs_o (by simp), hs_o (by simp)]
            exact s6) ?_
        · simp [EFo2, hs_get, s2, s3, s4, s5, s6, s7]
        · simp [hs_get, s1, e18]
    · rw [if_pos c1, if_neg c2, ins_f (w := 1) (by rw [o]; decide) (by rw [o]; unfold FX12_why FX12_why_196; simp (decide := true) only [c1, c2, ↓reduceIte]) (by decide)]
      exact fin_failo2 R S (by decide) (by decide)
  · rw [if_neg c1, ins_f (w := 1) (by rw [o]; decide) (by rw [o]; unfold FX12_why FX12_why_196; simp (decide := true) only [c1, ↓reduceIte]) (by decide)]
    exact fin_failo2 R S (by decide) (by decide)
theorem op_10o2 {z : zT} {h g : ph_H} {t : Int32} (R : RCo2 h g) (I : IM z g) (ht : iv 0 3 t) (S : S0co2 t h g) (e18 : h 28 t.toNatClampNeg = g 12 t.toNatClampNeg) {i : Int32} (q0 : h 10 (FX5_firstPart_t t (h 28 t.toNatClampNeg) h).toNatClampNeg = g 2 i.toNatClampNeg) (q1 : h 10 ((FX5_firstPart_t t (h 28 t.toNatClampNeg) h) + 1).toNatClampNeg = g 3 i.toNatClampNeg) (q2 : h 10 ((FX5_firstPart_t t (h 28 t.toNatClampNeg) h) + 2).toNatClampNeg = g 4 i.toNatClampNeg) (q3 : h 10 ((FX5_firstPart_t t (h 28 t.toNatClampNeg) h) + 3).toNatClampNeg = g 5 i.toNatClampNeg) (o : g 2 i.toNatClampNeg = 10) : SIMo2 t (FX3_perform_oc2 t h) (FX12_instruct t i g) := by
  rw [pf_10o2 (q0.trans o) q1 q2 q3, slot_eq t _ g, slot_eq t _ g, slot_eq t _ g]
  unfold FX3_writeRow_oc2 FX3_bothNumbers_oc2
  obtain ⟨a1, a2⟩ := R.1 _ (sl_lto2 (a := g 3 i.toNatClampNeg) (g := g) ht)
  obtain ⟨b1, b2⟩ := R.1 _ (sl_lto2 (a := g 4 i.toNatClampNeg) (g := g) ht)
  obtain ⟨d1, d2⟩ := R.1 _ (sl_lto2 (a := g 5 i.toNatClampNeg) (g := g) ht)
  rw [a1, a2, b1, b2, d1, d2]
  by_cases c1 : g 10 (FX12_local t (g 3 i.toNatClampNeg) g).toNatClampNeg = 1
  · by_cases c2 : g 10 (FX12_local t (g 4 i.toNatClampNeg) g).toNatClampNeg = 0
    · by_cases c3 : g 10 (FX12_local t (g 5 i.toNatClampNeg) g).toNatClampNeg = 0
      · have pe := rowp_eqo2 (v := g 11 (FX12_local t (g 4 i.toNatClampNeg) g).toNatClampNeg) R I (sl_lto2 (a := g 3 i.toNatClampNeg) (g := g) ht) c1
        simp (decide := true) only [c1, c2, c3, ↓reduceIte]
        by_cases c4 : FX12_isIn (g 11 (FX12_local t (g 4 i.toNatClampNeg) g).toNatClampNeg).toInt64 0 ((g 18 (g 11 (FX12_local t (g 3 i.toNatClampNeg) g).toNatClampNeg).toNatClampNeg) - 1).toInt64 = 0
        · rw [if_pos (pe.mpr c4), ins_f (w := 4) (by rw [o]; decide) (by rw [o]; unfold FX12_why; simp (decide := true) only [c1, c2, c3, c4, ↓reduceIte]) (by decide)]
          exact fin_failo2 R S (by decide) (by decide)
        · rw [if_neg (fun w => c4 (pe.mp w)), ins_10 o c1 c2 c3 c4]
          rw [Int32.mul_comm (g 11 (FX12_local t (g 3 i.toNatClampNeg) g).toNatClampNeg) 16, Int32.mul_comm (g 11 (FX12_local t (g 3 i.toNatClampNeg) g).toNatClampNeg) 20]
          obtain ⟨s1, s2, s3, s4, s5, s6, s7⟩ := S
          refine fin_goo2 (((R.rso2 (i := 25) (v := 0) rfl).cso2 (by decide)).rso2 rfl |>.rowo2) ?_ (by simp [hs_get]) (by
            obtain ⟨v1, v2⟩ := rowp_in I c4
            obtain ⟨r1, r2, r3⟩ := refso2 R (sl_lto2 (a := g 3 i.toNatClampNeg) (g := g) ht) (fun w => absurd (w.symm.trans c1) (by decide))
            have tn := th_nn I
            have xi : iv 0 11 (g 11 (FX12_local t (g 3 i.toNatClampNeg) g).toNatClampNeg) := ⟨by omega, by omega⟩
            refine ⟨Or.inl ?_, Or.inr ?_⟩
            · rw [hs_o (by simp), hs_o (by simp), hs_o (by simp)]
              exact s5
            · rw [hs_o (by simp), hs_self]
              exact pl_row xi v1) ?_
          · simp [EFo2, hs_get, s2, s3, s4, s5, s6, s7]
          · simp [hs_get, s1, e18]
      · simp (decide := true) only [c1, c2, c3, ↓reduceIte]
        rw [ins_f (w := 1) (by rw [o]; decide) (by rw [o]; unfold FX12_why FX12_why_266; simp (decide := true) only [c1, c2, c3, ↓reduceIte]) (by decide)]
        exact fin_failo2 R S (by decide) (by decide)
    · simp (decide := true) only [c1, c2, ↓reduceIte]
      rw [ins_f (w := 1) (by rw [o]; decide) (by rw [o]; unfold FX12_why FX12_why_266; simp (decide := true) only [c1, c2, ↓reduceIte]) (by decide)]
      exact fin_failo2 R S (by decide) (by decide)
  · simp (decide := true) only [c1, ↓reduceIte]
    rw [ins_f (w := 1) (by rw [o]; decide) (by rw [o]; unfold FX12_why FX12_why_266; simp (decide := true) only [c1, ↓reduceIte]) (by decide)]
    exact fin_failo2 R S (by decide) (by decide)
/-! new THINGS -/
theorem mr44o2 : ∀ (q : Nat) (x1 x3 x4 : Int32) (h : ph_H), iv 0 11 (h 25 10) → iv 0 16 x3 → 0 ≤ x4.toInt → x4.toInt ≤ x3.toInt → x3.toInt - x4.toInt < (q : Int) → ∃ h', FX3_makeRow_oc2_44 q x1 x3 x4 h = FX3_makeThing_oc2 x1 1 x3 h' ∧ (∀ p i, ¬ p = 34 → h' p i = h p i) ∧ (∀ j : Nat, x4.toInt ≤ j → (j : Int) < x3.toInt → h' 34 (16 * (h 25 10).toNatClampNeg + j) = 0) ∧ (∀ i : Nat, (i : Int) < 16 * (h 25 10).toInt + x4.toInt → h' 34 i = h 34 i)
  | 0, x1, x3, x4, h, f3, f4, m0, m1, m => by omega
  | q + 1, x1, x3, x4, h, f3, f4, m0, m1, m => by
    have k1 : (1 : Int32).toInt = 1 := by decide
    have k16 : (16 : Int32).toInt = 16 := by decide
    have n3 := iv_nat f3 rfl
    have f3' := f3
    unfold iv at f3 f4
    unfold FX3_makeRow_oc2_44
    by_cases c : x3 ≤ x4
    · rw [if_pos c]
      rw [Int32.le_iff_toInt_le] at c
      exact ⟨h, rfl, fun _ _ _ => rfl, fun j a b => by omega, fun _ _ => rfl⟩
    · rw [if_neg c]
      rw [Int32.le_iff_toInt_le] at c
      have e4 : (x4 + 1).toInt = x4.toInt + 1 := by rw [ti_add (by omega) (by omega), k1]
      have em : (h 25 10 * 16).toInt = 16 * (h 25 10).toInt := by rw [ti_mul (by rw [k16]; omega) (by rw [k16]; omega), k16]; omega
      have ea : (h 25 10 * 16 + x4).toInt = 16 * (h 25 10).toInt + x4.toInt := by rw [ti_add (by omega) (by omega), em]
      have ix : ((h 25 10 * 16 + x4).toNatClampNeg : Int) = 16 * (h 25 10).toInt + x4.toInt := by
        rw [← Int32.toNat_toInt]
        omega
      have hk : hs h 34 (h 25 10 * 16 + x4).toNatClampNeg 0 25 10 = h 25 10 := hs_o (by simp)
      obtain ⟨h', a1, a2, a3, a4⟩ := mr44o2 q x1 x3 (x4 + 1) (hs h 34 (h 25 10 * 16 + x4).toNatClampNeg 0) (by rw [hk]; exact f3') f4 (by omega) (by omega) (by omega)
      rw [hk] at a3 a4
      refine ⟨h', a1, fun p i hp => ?_, fun j hj hk2 => ?_, fun i hi => ?_⟩
      · rw [a2 p i hp, hs_o (fun w => hp w.1)]
      · by_cases d : (j : Int) = x4.toInt
        · rw [a4 _ (by omega), hs_get, if_pos rfl, if_pos (by omega)]
        · exact a3 j (by omega) hk2
      · rw [a4 i (by omega), hs_o (fun w => by omega)]
theorem new_simo2 {z : zT} {h h' g : ph_H} {kd sz slot : Int32} (R : RCo2 h g) (I : IM z g) (hl : (g 0 18).toInt < 12) (hz : sz.toInt ≤ 16) (hf : ∀ p i, ¬ p = 34 → h' p i = h p i) (hr : ∀ i : Nat, (i : Int) < 16 * (g 0 18).toInt → h' 34 i = h 34 i) (h0 : ∀ j : Nat, (j : Int) < sz.toInt → h' 34 (16 * (g 0 18).toNatClampNeg + j) = 0) :
    RCo2 (FX3_makeThing_oc2 slot kd sz h').2 (hs (hs (FX12_newThing kd sz g).2 10 slot.toNatClampNeg kd) 11 slot.toNatClampNeg (g 0 18)) := by
  have tn := th_nn I
  have k1 : (1 : Int32).toInt = 1 := by decide
  obtain ⟨g', a1, a2, a3, a4⟩ := nt_eq (k := kd) (n := sz) I hl
  have R1 := (R.rowco2 I hf hr).rowro2 I a2 a4
  have e0 : g' 0 18 = g 0 18 := a2 0 18 (by decide)
  have e1 : h' 25 10 = g 0 18 := by rw [hf _ _ (by decide)]; exact R.2.2.2.1.1
  have I1 : IVm g' := fun k i => by
    by_cases c : k = 19
    · subst c
      exact iv_any _
    · rw [a2 k i c]
      exact I.1 k i
  have I2 : IM z g' := ⟨I1, fun i => by rw [a2 10 i (by decide), a2 11 i (by decide)]; exact I.2.1 i, fun k i q => by
    by_cases c : k = 19
    · subst c
      rw [show gz 19 i = false from rfl] at q
      exact absurd q (by decide)
    · rw [a2 k i c]
      exact I.2.2 k i q⟩
  have R2 := R1.newo2 (kd := kd) (sz := sz) I2 (by rw [e0]; exact hl) (fun i hi => by
    rw [e0, h0 i hi]
    exact (a3 i (by omega)).symm)
  rw [e0] at R2
  rw [a1]
  unfold FX3_makeThing_oc2
  rw [e1]
  refine R2.sloto2 (Or.inr ⟨tn.1, ?_, ?_⟩)
  · rw [hs_self, ti_add (by omega) (by omega), k1]
    omega
  · rw [hs_o (by simp), hs_o (by simp), hs_o (by simp), hs_self]
theorem op_8o2 {z : zT} {h g : ph_H} {t : Int32} (R : RCo2 h g) (I : IM z g) (ht : iv 0 3 t) (S : S0co2 t h g) (e18 : h 28 t.toNatClampNeg = g 12 t.toNatClampNeg) {i : Int32} (q0 : h 10 (FX5_firstPart_t t (h 28 t.toNatClampNeg) h).toNatClampNeg = g 2 i.toNatClampNeg) (q1 : h 10 ((FX5_firstPart_t t (h 28 t.toNatClampNeg) h) + 1).toNatClampNeg = g 3 i.toNatClampNeg) (q2 : h 10 ((FX5_firstPart_t t (h 28 t.toNatClampNeg) h) + 2).toNatClampNeg = g 4 i.toNatClampNeg) (q3 : h 10 ((FX5_firstPart_t t (h 28 t.toNatClampNeg) h) + 3).toNatClampNeg = g 5 i.toNatClampNeg) (o : g 2 i.toNatClampNeg = 8) : SIMo2 t (FX3_perform_oc2 t h) (FX12_instruct t i g) := by
  rw [pf_8o2 (q0.trans o) q1 q2 q3, slot_eq t _ g, slot_eq t _ g]
  unfold FX3_makeRow_oc2
  obtain ⟨b1, b2⟩ := R.1 _ (sl_lto2 (a := g 4 i.toNatClampNeg) (g := g) ht)
  have e10 := R.2.2.2.1.1
  rw [b1, b2, e10]
  by_cases c1 : g 10 (FX12_local t (g 4 i.toNatClampNeg) g).toNatClampNeg = 0
  · by_cases c2 : 0 ≤ g 11 (FX12_local t (g 4 i.toNatClampNeg) g).toNatClampNeg
    · by_cases c3 : 16 < g 11 (FX12_local t (g 4 i.toNatClampNeg) g).toNatClampNeg
      · simp (decide := true) only [c1, c2, c3, ↓reduceIte]
        rw [ins_f (w := 3) (by rw [o]; decide) (by rw [o]; unfold FX12_why FX12_why_169; simp (decide := true) only [c1, c2, c3, ↓reduceIte]) (by decide)]
        exact fin_failo2 R S (by decide) (by decide)
      · by_cases c4 : g 0 18 = 12
        · have c5 : ¬ g 0 18 < 12 := fun w => (th12 I).mp w c4
          simp only [c1, c2, c3, c5, ↓reduceIte]
          rw [ins_f (w := 3) (by rw [o]; decide) (by rw [o]; unfold FX12_why FX12_why_169; simp (decide := true) only [c1, c2, c3, c4, ↓reduceIte]) (by decide)]
          exact fin_failo2 R S (by decide) (by decide)
        · have c5 : g 0 18 < 12 := (th12 I).mpr c4
          have hl : (g 0 18).toInt < 12 := by
            rw [Int32.lt_iff_toInt_lt] at c5
            exact c5
          simp only [c1, c2, c3, c5, ↓reduceIte]
          rw [ins_8 I hl o c1 c2 c3 c4]
          have k0 : (0 : Int32).toInt = 0 := by decide
          have k16 : (16 : Int32).toInt = 16 := by decide
          have tn := th_nn I
          have c2i := c2
          have c3i := c3
          rw [Int32.le_iff_toInt_le, k0] at c2i
          rw [Int32.lt_iff_toInt_lt, k16] at c3i
          obtain ⟨h', m1, m2, m3, m4⟩ := mr44o2 2000 (FX12_local t (g 3 i.toNatClampNeg) g) (g 11 (FX12_local t (g 4 i.toNatClampNeg) g).toNatClampNeg) 0 h (by rw [e10]; exact ⟨tn.1, by omega⟩) ⟨c2i, by omega⟩ (by decide) (by omega) (by omega)
          rw [m1]
          rw [e10] at m3 m4
          have I1 : IM z (hs g 0 25 0) := IMs I (iv_any _) rfl
          have hl1 : (hs g 0 25 0 0 18).toInt < 12 := by rw [hs_o (by simp)]; exact hl
          have N := new_simo2 (kd := 1) (sz := g 11 (FX12_local t (g 4 i.toNatClampNeg) g).toNatClampNeg) (slot := (FX12_local t (g 3 i.toNatClampNeg) g)) (R.rso2 (i := 25) (v := 0) rfl) I1 hl1 (by omega) m2 (fun i hi => m4 i (by rw [hs_o (by simp)] at hi; omega)) (fun j hj => by rw [hs_o (by simp)]; exact m3 j (by omega) hj)
          rw [hs_o (by simp)] at N
          obtain ⟨s1, s2, s3, s4, s5, s6, s7⟩ := S
          have F : ∀ j, 12 < j → (FX3_makeThing_oc2 (FX12_local t (g 3 i.toNatClampNeg) g) 1 (g 11 (FX12_local t (g 4 i.toNatClampNeg) g).toNatClampNeg) h').2 25 j = h 25 j := fun j hj => by
            unfold FX3_makeThing_oc2
            have : ¬ j = 10 := by omega
            simp [hs_get, this, m2 25 j (by decide)]
          refine fin_goo2 (X := (FX3_makeThing_oc2 (FX12_local t (g 3 i.toNatClampNeg) g) 1 (g 11 (FX12_local t (g 4 i.toNatClampNeg) g).toNatClampNeg) h').2) N ?_ ?_ (by
            have z29 := nt_0 (k := 1) (n := g 11 (FX12_local t (g 4 i.toNatClampNeg) g).toNatClampNeg) I1 hl1 (j := 29) (by decide)
            have z30 := nt_0 (k := 1) (n := g 11 (FX12_local t (g 4 i.toNatClampNeg) g).toNatClampNeg) I1 hl1 (j := 30) (by decide)
            simp [PLp, hs_get, z29, z30, s5, s6]) ?_
          · have z29 := nt_0 (k := 1) (n := g 11 (FX12_local t (g 4 i.toNatClampNeg) g).toNatClampNeg) I1 hl1 (j := 29) (by decide)
            have z30 := nt_0 (k := 1) (n := g 11 (FX12_local t (g 4 i.toNatClampNeg) g).toNatClampNeg) I1 hl1 (j := 30) (by decide)
            have z31 := nt_0 (k := 1) (n := g 11 (FX12_local t (g 4 i.toNatClampNeg) g).toNatClampNeg) I1 hl1 (j := 31) (by decide)
            simp [EFo2, hs_get, F, z29, z30, z31, s2, s3, s4, s5, s6, s7]
          · have z25 := nt_0 (k := 1) (n := g 11 (FX12_local t (g 4 i.toNatClampNeg) g).toNatClampNeg) I1 hl1 (j := 25) (by decide)
            simp [hs_get, z25]
          · rw [F 13 (by decide), s1, e18]
    · simp (decide := true) only [c1, c2, ↓reduceIte]
      rw [ins_f (w := 2) (by rw [o]; decide) (by rw [o]; unfold FX12_why; simp (decide := true) only [c1, c2, ↓reduceIte]) (by decide)]
      exact fin_failo2 R S (by decide) (by decide)
  · simp (decide := true) only [c1, ↓reduceIte]
    rw [ins_f (w := 1) (by rw [o]; decide) (by rw [o]; unfold FX12_why; simp (decide := true) only [c1, ↓reduceIte]) (by decide)]
    exact fin_failo2 R S (by decide) (by decide)
theorem mklo2 {z : zT} {h g : ph_H} {t i : Int32} {kd : Int32} (R : RCo2 h g) (I : IM z g) (ht : iv 0 3 t) (S : S0co2 t h g) (e18 : h 28 t.toNatClampNeg = g 12 t.toNatClampNeg) (o : g 2 i.toNatClampNeg = 11) (c4 : ¬ g 0 18 = 12) (hk : kd = if (g 4 i.toNatClampNeg - g 4 i.toNatClampNeg / 2 * 2) = 0 then 2 else 3) : SIMo2 t (FX3_makeThing_oc2 (FX12_local t (g 3 i.toNatClampNeg) g) kd 0 h) (FX12_instruct t i g) := by
  have c5 : g 0 18 < 12 := (th12 I).mpr c4
  have hl : (g 0 18).toInt < 12 := by
    rw [Int32.lt_iff_toInt_lt] at c5
    exact c5
  rw [ins_11 I hl o c4 hk]
  have k0 : (0 : Int32).toInt = 0 := by decide
  have I1 : IM z (hs g 0 25 0) := IMs I (iv_any _) rfl
  have hl1 : (hs g 0 25 0 0 18).toInt < 12 := by rw [hs_o (by simp)]; exact hl
  have N := new_simo2 (kd := kd) (sz := 0) (slot := (FX12_local t (g 3 i.toNatClampNeg) g)) (R.rso2 (i := 25) (v := 0) rfl) I1 hl1 (by decide) (fun _ _ _ => rfl) (fun _ _ => rfl) (fun j hj => by omega)
  rw [hs_o (by simp)] at N
  obtain ⟨s1, s2, s3, s4, s5, s6, s7⟩ := S
  have F : ∀ j, 12 < j → (FX3_makeThing_oc2 (FX12_local t (g 3 i.toNatClampNeg) g) kd 0 h).2 25 j = h 25 j := fun j hj => by
    unfold FX3_makeThing_oc2
    have : ¬ j = 10 := by omega
    simp [hs_get, this]
  refine fin_goo2 (X := (FX3_makeThing_oc2 (FX12_local t (g 3 i.toNatClampNeg) g) kd 0 h).2) N ?_ ?_ (by
    have z29 := nt_0 (k := kd) (n := 0) I1 hl1 (j := 29) (by decide)
    have z30 := nt_0 (k := kd) (n := 0) I1 hl1 (j := 30) (by decide)
    simp [PLp, hs_get, z29, z30, s5, s6]) ?_
  · have z29 := nt_0 (k := kd) (n := 0) I1 hl1 (j := 29) (by decide)
    have z30 := nt_0 (k := kd) (n := 0) I1 hl1 (j := 30) (by decide)
    have z31 := nt_0 (k := kd) (n := 0) I1 hl1 (j := 31) (by decide)
    simp [EFo2, hs_get, F, z29, z30, z31, s2, s3, s4, s5, s6, s7]
  · have z25 := nt_0 (k := kd) (n := 0) I1 hl1 (j := 25) (by decide)
    simp [hs_get, z25]
  · rw [F 13 (by decide), s1, e18]
theorem op_11o2 {z : zT} {h g : ph_H} {t : Int32} (R : RCo2 h g) (I : IM z g) (ht : iv 0 3 t) (S : S0co2 t h g) (e18 : h 28 t.toNatClampNeg = g 12 t.toNatClampNeg) {i : Int32} (q0 : h 10 (FX5_firstPart_t t (h 28 t.toNatClampNeg) h).toNatClampNeg = g 2 i.toNatClampNeg) (q1 : h 10 ((FX5_firstPart_t t (h 28 t.toNatClampNeg) h) + 1).toNatClampNeg = g 3 i.toNatClampNeg) (q2 : h 10 ((FX5_firstPart_t t (h 28 t.toNatClampNeg) h) + 2).toNatClampNeg = g 4 i.toNatClampNeg) (q3 : h 10 ((FX5_firstPart_t t (h 28 t.toNatClampNeg) h) + 3).toNatClampNeg = g 5 i.toNatClampNeg) (o : g 2 i.toNatClampNeg = 11) : SIMo2 t (FX3_perform_oc2 t h) (FX12_instruct t i g) := by
  rw [pf_11o2 (q0.trans o) q1 q2 q3, slot_eq t _ g]
  unfold FX3_makeLock_oc2 FX3_makeLock_oc2_22
  have e10 := R.2.2.2.1.1
  rw [e10]
  by_cases c4 : g 0 18 = 12
  · have c5 : ¬ g 0 18 < 12 := fun w => (th12 I).mp w c4
    rw [ins_f (w := 3) (by rw [o]; decide) (by rw [o]; unfold FX12_why; simp (decide := true) only [c4, ↓reduceIte]) (by decide)]
    simp only [c5, ↓reduceIte, ite_self]
    exact fin_failo2 R S (by decide) (by decide)
  · have c5 : g 0 18 < 12 := (th12 I).mpr c4
    by_cases b : (g 4 i.toNatClampNeg &&& 1) = 0
    · simp (decide := true) only [b, c5, ↓reduceIte]
      exact mklo2 R I ht S e18 o c4 (by rw [if_pos ((and1_even _).mp b)])
    · simp (decide := true) only [b, c5, ↓reduceIte]
      exact mklo2 R I ht S e18 o c4 (by rw [if_neg (fun w => b ((and1_even _).mpr w))])
/-! WORD -/
theorem wk28o2 {z : zT} {a : Int32} : ∀ (q : Nat) (x : Int32) (h g : ph_H), RCo2 h g → IM z g → 0 ≤ (g 11 a.toNatClampNeg).toInt → iv 0 4 x → 4 - x.toInt < (q : Int) → ∃ h', FX3_wakeSleepers_oc2_28 q (g 11 a.toNatClampNeg) x h = (0, hs h' 25 16 3) ∧ RCo2 h' (FX12_work_391 q a x g) ∧ (∀ p i, ¬ p = 29 → h' p i = h p i)
  | 0, x, h, g, R, I, n, f, m => by unfold iv at f; omega
  | q + 1, x, h, g, R, I, n, f, m => by
    have k1 : (1 : Int32).toInt = 1 := by decide
    have k4 : (4 : Int32).toInt = 4 := by decide
    have xn := iv_nat f rfl
    unfold iv at f
    unfold FX3_wakeSleepers_oc2_28 FX3_wakeSleepers_oc2_64 FX12_work_391 FX12_work_435
    by_cases c : 4 ≤ x
    · rw [if_pos c, if_pos c]
      exact ⟨h, rfl, R, fun _ _ _ => rfl⟩
    · rw [if_neg c, if_neg c]
      rw [Int32.le_iff_toInt_le, k4] at c
      have e4 : (x + 1).toInt = x.toInt + 1 := by rw [ti_add (by omega) (by omega), k1]
      have hx : x.toNatClampNeg < 4 := by omega
      have md := R.2.2.1 _ hx
      by_cases d : g 14 x.toNatClampNeg = g 11 a.toNatClampNeg
      · rw [if_pos d]
        have m2 : h 29 x.toNatClampNeg = 2 ∧ h 30 x.toNatClampNeg = g 11 a.toNatClampNeg := by
          have n1 : (-1 : Int32).toInt = -1 := by decide
          rcases md with ⟨_, _, w, _⟩ | ⟨_, _, w, _⟩ | ⟨m, _, w, _, _⟩ | ⟨_, _, w, _⟩
          · rw [← d, w] at n; omega
          · rw [← d, w] at n; omega
          · exact ⟨m, w.symm.trans d⟩
          · rw [← d, w] at n; omega
        rw [if_pos m2.1, if_pos m2.2]
        have R1 := R.wakeo2 I hx m2.1
        have e11 : hs (hs g 15 x.toNatClampNeg (g 14 x.toNatClampNeg)) 14 x.toNatClampNeg (-1) 11 a.toNatClampNeg = g 11 a.toNatClampNeg := by rw [hs_o (by simp), hs_o (by simp)]
        have I1 : IM z (hs (hs g 15 x.toNatClampNeg (g 14 x.toNatClampNeg)) 14 x.toNatClampNeg (-1)) := IMs (IMs I (k := 15) (i := x.toNatClampNeg) (IMv I 14 x.toNatClampNeg) rfl) (k := 14) (i := x.toNatClampNeg) (show iv (-1) 11 (-1) from ⟨by decide, by decide⟩) rfl
        obtain ⟨h', b1, b2, b3⟩ := wk28o2 q (x + 1) _ _ R1 I1 (by rw [e11]; exact n) (by unfold iv; omega) (by omega)
        rw [e11] at b1
        exact ⟨h', b1, b2, fun p i hp => by rw [b3 p i hp, hs_o (fun w => hp w.1)]⟩
      · rw [if_neg d]
        have : (if h 29 x.toNatClampNeg = 2 then (if h 30 x.toNatClampNeg = g 11 a.toNatClampNeg then FX3_wakeSleepers_oc2_28 q (g 11 a.toNatClampNeg) (x + 1) (hs h 29 x.toNatClampNeg 3) else FX3_wakeSleepers_oc2_28 q (g 11 a.toNatClampNeg) (x + 1) h) else FX3_wakeSleepers_oc2_28 q (g 11 a.toNatClampNeg) (x + 1) h) = FX3_wakeSleepers_oc2_28 q (g 11 a.toNatClampNeg) (x + 1) h := by
          by_cases u : h 29 x.toNatClampNeg = 2
          · have w := MD2 md u
            rw [if_pos u, if_neg (fun v => d (w.2.1.trans v))]
          · rw [if_neg u]
        rw [this]
        exact wk28o2 q (x + 1) h g R I n (by unfold iv; omega) (by omega)
theorem op_15o2 {z : zT} {h g : ph_H} {t : Int32} (R : RCo2 h g) (I : IM z g) (ht : iv 0 3 t) (S : S0co2 t h g) (e18 : h 28 t.toNatClampNeg = g 12 t.toNatClampNeg) {i : Int32} (q0 : h 10 (FX5_firstPart_t t (h 28 t.toNatClampNeg) h).toNatClampNeg = g 2 i.toNatClampNeg) (q1 : h 10 ((FX5_firstPart_t t (h 28 t.toNatClampNeg) h) + 1).toNatClampNeg = g 3 i.toNatClampNeg) (q2 : h 10 ((FX5_firstPart_t t (h 28 t.toNatClampNeg) h) + 2).toNatClampNeg = g 4 i.toNatClampNeg) (q3 : h 10 ((FX5_firstPart_t t (h 28 t.toNatClampNeg) h) + 3).toNatClampNeg = g 5 i.toNatClampNeg) (o : g 2 i.toNatClampNeg = 15) : SIMo2 t (FX3_perform_oc2 t h) (FX12_instruct t i g) := by
  rw [pf_15o2 (q0.trans o) q1 q2 q3, slot_eq t _ g]
  unfold FX3_wakeSleepers_oc2
  rw [gate_eqo2 R (sl_lto2 ht)]
  by_cases l : g 10 (FX12_local t (g 3 i.toNatClampNeg) g).toNatClampNeg = 3
  · have l0 : ¬ g 10 (FX12_local t (g 3 i.toNatClampNeg) g).toNatClampNeg = 0 := fun w => absurd (w.symm.trans l) (by decide)
    have lo := own_ato2 R (sl_lto2 ht) l0
    obtain ⟨a, b, c⟩ := refso2 R (sl_lto2 ht) l0
    have nn := nn_le (x := g 11 (FX12_local t (g 3 i.toNatClampNeg) g).toNatClampNeg) (by omega)
    simp (decide := true) only [l, nn, ↓reduceIte]
    by_cases u : g 17 (g 11 (FX12_local t (g 3 i.toNatClampNeg) g).toNatClampNeg).toNatClampNeg = t
    · rw [if_pos ((OW_own lo ht).mpr u), ins_15 o l u]
      have I1 : IM z (hs (hs (hs g 0 25 0) 0 31 3) 0 32 (g 11 (FX12_local t (g 3 i.toNatClampNeg) g).toNatClampNeg)) := IMs (IMs (IMs I (k := 0) (i := 25) (iv_any _) rfl) (k := 0) (i := 31) (iv_any _) rfl) (k := 0) (i := 32) (iv_any _) rfl
      have e11 : hs (hs (hs g 0 25 0) 0 31 3) 0 32 (g 11 (FX12_local t (g 3 i.toNatClampNeg) g).toNatClampNeg) 11 (FX12_local t (g 3 i.toNatClampNeg) g).toNatClampNeg = g 11 (FX12_local t (g 3 i.toNatClampNeg) g).toNatClampNeg := by rw [hs_o (by simp), hs_o (by simp), hs_o (by simp)]
      obtain ⟨h', b1, b2, b3⟩ := wk28o2 (z := z) (a := (FX12_local t (g 3 i.toNatClampNeg) g)) 2000 0 h (hs (hs (hs g 0 25 0) 0 31 3) 0 32 (g 11 (FX12_local t (g 3 i.toNatClampNeg) g).toNatClampNeg)) (((R.rso2 rfl).rso2 rfl).rso2 rfl) I1 (by rw [e11]; omega) ⟨by decide, by decide⟩ (by decide)
      rw [e11] at b1
      rw [b1]
      obtain ⟨s1, s2, s3, s4, s5, s6, s7⟩ := S
      have W : ∀ j, FX12_work_391 2000 (FX12_local t (g 3 i.toNatClampNeg) g) 0 (hs (hs (hs g 0 25 0) 0 31 3) 0 32 (g 11 (FX12_local t (g 3 i.toNatClampNeg) g).toNatClampNeg)) 0 j = hs (hs (hs g 0 25 0) 0 31 3) 0 32 (g 11 (FX12_local t (g 3 i.toNatClampNeg) g).toNatClampNeg) 0 j := fun j => w391_o _ _ _ _ _ _ (by decide) (by decide)
      have F : ∀ j, h' 25 j = h 25 j := fun j => b3 25 j (by decide)
      refine fin_goo2 (b2.cso2 (by decide)) ?_ ?_ (by simp [PLp, W, hs_get, s5, s6]) ?_
      · simp [EFo2, W, F, hs_get, s2, s3, s4, s5, s6, s7]
      · simp [W, hs_get]
      · simp [hs_get, F, s1, e18]
    · rw [ins_f (w := 6) (by rw [o]; decide) (by rw [o]; unfold FX12_why; simp (decide := true) only [l, u, ↓reduceIte]) (by decide), if_neg (fun w => u ((OW_own lo ht).mp w))]
      exact fin_failo2 R S (by decide) (by decide)
  · rw [ins_f (w := 1) (by rw [o]; decide) (by rw [o]; unfold FX12_why; simp (decide := true) only [l, ↓reduceIte]) (by decide)]
    simp (decide := true) only [l, le_n1, ↓reduceIte]
    exact fin_failo2 R S (by decide) (by decide)
end MG_48_x17A7o2
section MG_48_x18A8o2
/-! ONE STEP on both sides -/
def cMo2 (k i : Nat) : Bool := match k with
  | 25 => i == 10 || i == 11 || i == 12
  | 26 => true
  | 27 => true
  | 28 => true
  | 29 => true
  | 30 => true
  | 31 => true
  | 32 => true
  | 33 => true
  | 34 => true
  | 9 => true
  | 10 => true
  | 12 => true
  | _ => false
theorem RCo2.congro2 {h h' g g' : ph_H} (R : RCo2 h g) (hc : ∀ k i, cMo2 k i = true → h' k i = h k i) (hr : ∀ k i, rM k i = true → g' k i = g k i) (h36 : ¬ g 0 33 = 0 → ∀ i, g' 36 i = g 36 i) : RCo2 h' g' := by
  obtain ⟨r1, r2, r3, r4, r5, r6, r7⟩ := R
  have c16 : ∀ i, h' 26 i = h 26 i := fun i => hc _ _ rfl
  have c17 : ∀ i, h' 27 i = h 27 i := fun i => hc _ _ rfl
  have c18 : ∀ i, h' 28 i = h 28 i := fun i => hc _ _ rfl
  have c19 : ∀ i, h' 29 i = h 29 i := fun i => hc _ _ rfl
  have c20 : ∀ i, h' 30 i = h 30 i := fun i => hc _ _ rfl
  have c21 : ∀ i, h' 31 i = h 31 i := fun i => hc _ _ rfl
  have c22 : ∀ i, h' 32 i = h 32 i := fun i => hc _ _ rfl
  have c23 : ∀ i, h' 33 i = h 33 i := fun i => hc _ _ rfl
  have c24 : ∀ i, h' 34 i = h 34 i := fun i => hc _ _ rfl
  have c9 : ∀ i, h' 9 i = h 9 i := fun i => hc _ _ rfl
  have cp : ∀ i, h' 10 i = h 10 i := fun i => hc _ _ rfl
  have c12 : ∀ i, h' 12 i = h 12 i := fun i => hc _ _ rfl
  have f10 : h' 25 10 = h 25 10 := hc _ _ rfl
  have f11 : h' 25 11 = h 25 11 := hc _ _ rfl
  have f12 : h' 25 12 = h 25 12 := hc _ _ rfl
  have g1 : ∀ i, g' 1 i = g 1 i := fun i => hr _ _ rfl
  have g2 : ∀ i, g' 2 i = g 2 i := fun i => hr _ _ rfl
  have g3 : ∀ i, g' 3 i = g 3 i := fun i => hr _ _ rfl
  have g4 : ∀ i, g' 4 i = g 4 i := fun i => hr _ _ rfl
  have g5 : ∀ i, g' 5 i = g 5 i := fun i => hr _ _ rfl
  have g7 : ∀ i, g' 7 i = g 7 i := fun i => hr _ _ rfl
  have g10 : ∀ i, g' 10 i = g 10 i := fun i => hr _ _ rfl
  have g11 : ∀ i, g' 11 i = g 11 i := fun i => hr _ _ rfl
  have g12 : ∀ i, g' 12 i = g 12 i := fun i => hr _ _ rfl
  have g13 : ∀ i, g' 13 i = g 13 i := fun i => hr _ _ rfl
  have g14 : ∀ i, g' 14 i = g 14 i := fun i => hr _ _ rfl
  have g15 : ∀ i, g' 15 i = g 15 i := fun i => hr _ _ rfl
  have g16 : ∀ i, g' 16 i = g 16 i := fun i => hr _ _ rfl
  have g17 : ∀ i, g' 17 i = g 17 i := fun i => hr _ _ rfl
  have g18 : ∀ i, g' 18 i = g 18 i := fun i => hr _ _ rfl
  have g19 : ∀ i, g' 19 i = g 19 i := fun i => hr _ _ rfl
  have e7 : g' 0 7 = g 0 7 := hr _ _ rfl
  have e18 : g' 0 18 = g 0 18 := hr _ _ rfl
  have e23 : g' 0 23 = g 0 23 := hr _ _ rfl
  have e33 : g' 0 33 = g 0 33 := hr _ _ rfl
  have e34 : g' 0 34 = g 0 34 := hr _ _ rfl
  have ek : kn g' = kn g := by unfold kn; rw [e7, e33, e34]
  have ev : ∀ k, vi g' k = vi g k := fun k => by
    unfold vi
    rw [e33, g7]
    by_cases c : g 0 33 = 0
    · rw [if_pos c, if_pos c]
    · rw [if_neg c, if_neg c, h36 c]
  refine ⟨?_, ?_, ?_, ?_, ?_, ?_, ?_⟩
  · simpa only [Rslo2, c16, c17, g10, g11] using r1
  · simpa only [Rato2, c18, g1, g12] using r2
  · simpa only [Rmdo2, c19, c20, g13, g14, g15] using r3
  · simpa only [Rtho2, f10, c21, c22, c23, c24, e18, g16, g17, g18, g19] using r4
  · simpa only [Rino2, f11, f12, c12, e23, ek, ev] using r5
  · simpa only [Rpro2, c9, cp, g1, g2, g3, g4, g5] using r6
  · simpa only [LV, g2, g10, g11, g14, g15, g16, e18] using r7
theorem op_allo2 {z : zT} {h g : ph_H} {t : Int32} (R : RCo2 h g) (I : IM z g) (ht : iv 0 3 t) (S : S0co2 t h g) (e12 : ¬ g 12 t.toNatClampNeg = 24) (m1 : h 29 t.toNatClampNeg = 1) (kk : g 2 ((24 * t) + g 12 t.toNatClampNeg).toNatClampNeg = 16 → ¬ g 0 33 = 0 → ¬ g 0 23 = g 0 34) : SIMo2 t (FX3_perform_oc2 t h) (FX12_instruct t ((24 * t) + g 12 t.toNatClampNeg) g) := by
  obtain ⟨p0, p1, p2, p3⟩ := partso2 R I ht e12
  have e18 := (standso2 R I ht e12).1
  have ob : iv 0 19 (g 2 ((24 * t) + g 12 t.toNatClampNeg).toNatClampNeg) := R.2.2.2.2.2.2.2.2 _
  generalize hi : (24 * t) + g 12 t.toNatClampNeg = i at *
  have hx : g 2 i.toNatClampNeg = 0 ∨ g 2 i.toNatClampNeg = 1 ∨ g 2 i.toNatClampNeg = 2 ∨ g 2 i.toNatClampNeg = 3 ∨ g 2 i.toNatClampNeg = 4 ∨ g 2 i.toNatClampNeg = 5 ∨ g 2 i.toNatClampNeg = 6 ∨ g 2 i.toNatClampNeg = 7 ∨ g 2 i.toNatClampNeg = 8 ∨ g 2 i.toNatClampNeg = 9 ∨ g 2 i.toNatClampNeg = 10 ∨ g 2 i.toNatClampNeg = 11 ∨ g 2 i.toNatClampNeg = 12 ∨ g 2 i.toNatClampNeg = 13 ∨ g 2 i.toNatClampNeg = 14 ∨ g 2 i.toNatClampNeg = 15 ∨ g 2 i.toNatClampNeg = 16 ∨ g 2 i.toNatClampNeg = 17 ∨ g 2 i.toNatClampNeg = 18 ∨ g 2 i.toNatClampNeg = 19 := by
    simp only [← Int32.toInt_inj]
    have k0 : (0 : Int32).toInt = 0 := by decide
    have k1 : (1 : Int32).toInt = 1 := by decide
    have k2 : (2 : Int32).toInt = 2 := by decide
    have k3 : (3 : Int32).toInt = 3 := by decide
    have k4 : (4 : Int32).toInt = 4 := by decide
    have k5 : (5 : Int32).toInt = 5 := by decide
    have k6 : (6 : Int32).toInt = 6 := by decide
    have k7 : (7 : Int32).toInt = 7 := by decide
    have k8 : (8 : Int32).toInt = 8 := by decide
    have k9 : (9 : Int32).toInt = 9 := by decide
    have k10 : (10 : Int32).toInt = 10 := by decide
    have k11 : (11 : Int32).toInt = 11 := by decide
    have k12 : (12 : Int32).toInt = 12 := by decide
    have k13 : (13 : Int32).toInt = 13 := by decide
    have k14 : (14 : Int32).toInt = 14 := by decide
    have k15 : (15 : Int32).toInt = 15 := by decide
    have k16 : (16 : Int32).toInt = 16 := by decide
    have k17 : (17 : Int32).toInt = 17 := by decide
    have k18 : (18 : Int32).toInt = 18 := by decide
    have k19 : (19 : Int32).toInt = 19 := by decide
    unfold iv at ob
    omega
  rcases hx with o | o | o | o | o | o | o | o | o | o | o | o | o | o | o | o | o | o | o | o
  · exact op_0o2 R I ht S e18 p0 p1 p2 p3 o
  · exact op_1o2 R I ht S e18 p0 p1 p2 p3 o
  · exact op_2o2 R I ht S e18 p0 p1 p2 p3 o
  · exact op_3o2 R I ht S e18 p0 p1 p2 p3 o
  · exact op_4o2 R I ht S e18 p0 p1 p2 p3 o
  · exact op_5o2 R I ht S e18 p0 p1 p2 p3 o
  · exact op_6o2 R I ht S e18 p0 p1 p2 p3 o
  · exact op_7o2 R I ht S e18 p0 p1 p2 p3 o
  · exact op_8o2 R I ht S e18 p0 p1 p2 p3 o
  · exact op_9o2 R I ht S e18 p0 p1 p2 p3 o
  · exact op_10o2 R I ht S e18 p0 p1 p2 p3 o
  · exact op_11o2 R I ht S e18 p0 p1 p2 p3 o
  · exact op_12o2 R I ht S e18 p0 p1 p2 p3 o
  · exact op_13o2 R I ht S e18 p0 p1 p2 p3 o
  · exact op_14o2 R I ht S e18 m1 p0 p1 p2 p3 o
  · exact op_15o2 R I ht S e18 p0 p1 p2 p3 o
  · exact op_16o2 R I ht S e18 (kk o) p0 p1 p2 p3 o
  · exact op_17o2 R I ht S e18 p0 p1 p2 p3 o
  · exact op_18o2 R I ht S e18 p0 p1 p2 p3 o
  · exact op_19o2 R I ht S e18 p0 p1 p2 p3 o
/-- does the step ask for an INPUT that isn't known -/
theorem mood_ofo2 {h g : ph_H} {t : Int32} (R : RCo2 h g) (ht : iv 0 3 t) (c : ¬ FX12_canGo t g = 0) : (h 29 t.toNatClampNeg = 1 ∧ g 15 t.toNatClampNeg < 0) ∨ (h 29 t.toNatClampNeg = 3 ∧ ¬ g 15 t.toNatClampNeg < 0 ∧ g 15 t.toNatClampNeg = h 30 t.toNatClampNeg ∧ iv 0 11 (g 15 t.toNatClampNeg)) := by
  obtain ⟨c1, c2, c3⟩ := cg_true c
  rcases R.2.2.1 _ (t_lto2 ht) with ⟨m, st, as, wk⟩ | ⟨m, st, as, wk⟩ | ⟨m, st, as, q, wk⟩ | ⟨m, st, as, wk, q⟩
  · exact absurd st c1
  · exact Or.inl ⟨m, by rw [wk]; decide⟩
  · rw [as] at c3
    unfold iv at q
    exact absurd c3 (nn_t q.1)
  · refine Or.inr ⟨m, ?_, wk, by rw [wk]; exact q⟩
    unfold iv at q
    rw [wk]
    exact nn_t q.1
/-- the step, not asking -/
theorem go_eqo2 {z : zT} {h g : ph_H} {t : Int32} (R : RCo2 h g) (I : IM z g) (ht : iv 0 3 t) (c : ¬ FX12_canGo t g = 0) (nf : g 0 25 = 0) (na : ¬ asksU t g) : (FX3_go_oc2 t h).1 = FX12_step t g 0 25 ∧ RCo2 (FX3_go_oc2 t h).2 (FX12_step t g) ∧ EFo2 (FX3_go_oc2 t h).2 (FX12_step t g) ∧ FL (FX12_step t g) := by
  have c' : ¬ FX3_canGo_oc2 t h = 0 := by rw [canGo_eqo2 R I ht]; exact c
  obtain ⟨c1, c2, c3⟩ := cg_true c
  have e18 := (standso2 R I ht c2).1
  have Rh : RCo2 (hs (hs (hs (hs (hs h 25 14 (-2)) 25 15 (-2)) 25 16 0) 25 17 0) 25 13 (h 28 t.toNatClampNeg + 1)) (hs (hs (hs (hs (hs (hs g 0 27 (g 12 t.toNatClampNeg)) 0 28 (g 2 ((24 * t) + g 12 t.toNatClampNeg).toNatClampNeg)) 0 29 (-2)) 0 30 (-2)) 0 31 0) 0 32 (-1)) := (((((((((((R.cso2 (by decide)).cso2 (by decide)).cso2 (by decide)).cso2 (by decide)).cso2 (by decide)).rso2 rfl).rso2 rfl).rso2 rfl).rso2 rfl).rso2 rfl).rso2 rfl)
  have I0 : IM z (hs (hs (hs (hs (hs (hs g 0 27 (g 12 t.toNatClampNeg)) 0 28 (g 2 ((24 * t) + g 12 t.toNatClampNeg).toNatClampNeg)) 0 29 (-2)) 0 30 (-2)) 0 31 0) 0 32 (-1)) := IMs (IMs (IMs (IMs (IMs (IMs I (k := 0) (i := 27) (iv_any _) rfl) (k := 0) (i := 28) (iv_any _) rfl) (k := 0) (i := 29) (iv_any _) rfl) (k := 0) (i := 30) (iv_any _) rfl) (k := 0) (i := 31) (iv_any _) rfl) (k := 0) (i := 32) (iv_any _) rfl
  unfold FX3_go_oc2 FX3_go_oc2_59
  rw [if_neg c']
  rcases mood_ofo2 R ht c with ⟨m, w⟩ | ⟨m, w, wq, q⟩
  · rw [if_neg (by rw [m]; decide)]
    have st : FX12_step t g = FX12_step_148 t ((24 * t) + g 12 t.toNatClampNeg) (hs (hs (hs (hs (hs (hs g 0 27 (g 12 t.toNatClampNeg)) 0 28 (g 2 ((24 * t) + g 12 t.toNatClampNeg).toNatClampNeg)) 0 29 (-2)) 0 30 (-2)) 0 31 0) 0 32 (-1)) := by
      unfold FX12_step
      rw [if_pos w]
      by_cases o : g 2 ((24 * t) + g 12 t.toNatClampNeg).toNatClampNeg = 16
      · rw [if_pos o]
        by_cases k : g 0 33 = 0
        · rw [if_pos k]
        · rw [if_neg k, if_neg (fun e => na ⟨w, o, k, e⟩)]
      · rw [if_neg o]
    have S : S0co2 t (hs (hs (hs (hs (hs h 25 14 (-2)) 25 15 (-2)) 25 16 0) 25 17 0) 25 13 (h 28 t.toNatClampNeg + 1)) (hs (hs (hs (hs (hs (hs g 0 27 (g 12 t.toNatClampNeg)) 0 28 (g 2 ((24 * t) + g 12 t.toNatClampNeg).toNatClampNeg)) 0 29 (-2)) 0 30 (-2)) 0 31 0) 0 32 (-1)) := by simp [S0co2, hs_get]
    have P := op_allo2 (z := z) (t := t) Rh I0 ht S (by simpa [hs_get] using c2) (by simpa [hs_get] using m) (fun o k e => by
      simp [hs_get] at o k e
      exact na ⟨w, o, k, e⟩)
    have e : (24 * t) + (hs (hs (hs (hs (hs (hs g 0 27 (g 12 t.toNatClampNeg)) 0 28 (g 2 ((24 * t) + g 12 t.toNatClampNeg).toNatClampNeg)) 0 29 (-2)) 0 30 (-2)) 0 31 0) 0 32 (-1)) 12 t.toNatClampNeg = (24 * t) + g 12 t.toNatClampNeg := by simp [hs_get]
    rw [e] at P
    rw [st]
    unfold FX12_step_148 FX12_step_154
    unfold SIMo2 at P
    obtain ⟨pp1, pp2, pp3, pp4⟩ := P
    refine ⟨?_, (pp2.rso2 rfl).rso2 rfl, ?_, ?_⟩
    · rw [pp1]
      simp [hs_get]
    · simpa [EFo2, hs_get] using pp3
    · simpa [FL, PLp, hs_get] using pp4
  · rw [if_pos m]
    have lv := (R.2.2.2.2.2.2.2.1 _ (t_lto2 ht)).2
    have st : FX12_step t g = FX12_step_154 t (FX12_goTo t (g 12 t.toNatClampNeg + 1) (hs (hs (hs (hs (hs (hs (hs (hs (hs (hs g 0 27 (g 12 t.toNatClampNeg)) 0 28 (g 2 ((24 * t) + g 12 t.toNatClampNeg).toNatClampNeg)) 0 29 (-2)) 0 30 (-2)) 0 31 0) 0 32 (-1)) 17 (g 15 t.toNatClampNeg).toNatClampNeg t) 0 31 1) 0 32 (g 15 t.toNatClampNeg)) 15 t.toNatClampNeg (-1))) := by
      unfold FX12_step FX12_step_110
      rw [if_neg w]
    rw [st]
    unfold FX3_rise_oc2 FX3_own_oc2
    have e20 : (hs (hs (hs (hs (hs h 25 14 (-2)) 25 15 (-2)) 25 16 0) 25 17 0) 25 13 (h 28 t.toNatClampNeg + 1)) 30 t.toNatClampNeg = g 15 t.toNatClampNeg := by
      rw [wq]
      simp [hs_get]
    rw [e20]
    have R1 := (Rh.riseo2 I0 (t_lto2 ht) (by simpa [hs_get] using m)).owno2 (x := (g 15 t.toNatClampNeg).toNatClampNeg) (c := t) (r := t) (Or.inr ⟨rfl, ht⟩)
    have R2 := (((R1.cso2 (i := 16) (v := 1) (by decide)).cso2 (i := 17) (v := g 15 t.toNatClampNeg) (by decide)).rso2 (i := 31) (v := 1) rfl).rso2 (i := 32) (v := g 15 t.toNatClampNeg) rfl
    rw [hs_comm _ 15 _ _ 17 _ _ (Or.inl (by decide)), hs_comm _ 15 _ _ 0 _ _ (Or.inl (by decide)), hs_comm _ 15 _ _ 0 _ _ (Or.inl (by decide))] at R2
    have F := fin_goo2 (t := t) (a := g 12 t.toNatClampNeg + 1) R2 (by simp [EFo2, hs_get]) (by simpa [hs_get] using nf) (by simp [PLp, hs_get]) (by simp [hs_get, e18])
    unfold SIMo2 at F
    obtain ⟨pp1, pp2, pp3, pp4⟩ := F
    unfold FX12_step_154
    refine ⟨?_, (pp2.rso2 rfl).rso2 rfl, ?_, ?_⟩
    · rw [pp1]
      simp [hs_get]
    · simpa [EFo2, hs_get] using pp3
    · simpa [FL, PLp, hs_get] using pp4
/-- the step that asks for an INPUT that isn't known -/
theorem go_askso2 {z : zT} {h g : ph_H} {t : Int32} (R : RCo2 h g) (I : IM z g) (ht : iv 0 3 t) (c : ¬ FX12_canGo t g = 0) (a : asksU t g) : (FX3_go_oc2 t h).1 = 7 ∧ FX12_step t g = hs (hs (hs (hs (hs (hs (hs g 0 27 (g 12 t.toNatClampNeg)) 0 28 (g 2 ((24 * t) + g 12 t.toNatClampNeg).toNatClampNeg)) 0 29 (-2)) 0 30 (-2)) 0 31 0) 0 32 (-1)) 0 35 1 := by
  have c' : ¬ FX3_canGo_oc2 t h = 0 := by rw [canGo_eqo2 R I ht]; exact c
  obtain ⟨c1, c2, c3⟩ := cg_true c
  obtain ⟨a1, a2, a3, a4⟩ := a
  obtain ⟨p0, p1, p2, p3⟩ := partso2 R I ht c2
  refine ⟨?_, ?_⟩
  · unfold FX3_go_oc2
    rw [if_neg c']
    rcases mood_ofo2 R ht c with ⟨m, w⟩ | ⟨m, w, wq, q⟩
    · rw [if_neg (by rw [m]; decide)]
      have e : ∀ v, FX5_firstPart_t t v (hs (hs (hs (hs (hs h 25 14 (-2)) 25 15 (-2)) 25 16 0) 25 17 0) 25 13 (h 28 t.toNatClampNeg + 1)) = FX5_firstPart_t t v h := fun v => rfl
      have e1 : (hs (hs (hs (hs (hs h 25 14 (-2)) 25 15 (-2)) 25 16 0) 25 17 0) 25 13 (h 28 t.toNatClampNeg + 1)) 28 t.toNatClampNeg = h 28 t.toNatClampNeg := by simp [hs_get]
      have e2 : ∀ i, (hs (hs (hs (hs (hs h 25 14 (-2)) 25 15 (-2)) 25 16 0) 25 17 0) 25 13 (h 28 t.toNatClampNeg + 1)) 10 i = h 10 i := fun i => by simp [hs_get]
      rw [pf_16o2 (h := (hs (hs (hs (hs (hs h 25 14 (-2)) 25 15 (-2)) 25 16 0) 25 17 0) 25 13 (h 28 t.toNatClampNeg + 1))) (a := g 3 ((24 * t) + g 12 t.toNatClampNeg).toNatClampNeg) (b := g 4 ((24 * t) + g 12 t.toNatClampNeg).toNatClampNeg) (c := g 5 ((24 * t) + g 12 t.toNatClampNeg).toNatClampNeg) (by rw [e1, e, e2, p0, a2]) (by rw [e1, e, e2, p1]) (by rw [e1, e, e2, p2]) (by rw [e1, e, e2, p3])]
      unfold FX3_takeInput_oc2
      obtain ⟨i1, i2, i3, i4⟩ := R.2.2.2.2.1
      have f1 : (hs (hs (hs (hs (hs h 25 14 (-2)) 25 15 (-2)) 25 16 0) 25 17 0) 25 13 (h 28 t.toNatClampNeg + 1)) 25 11 = kn g := by rw [← i2]; simp [hs_get]
      have f2 : (hs (hs (hs (hs (hs h 25 14 (-2)) 25 15 (-2)) 25 16 0) 25 17 0) 25 13 (h 28 t.toNatClampNeg + 1)) 25 12 = g 0 23 := by rw [← i1]; simp [hs_get]
      have f3 : kn g ≤ g 0 23 := by
        unfold kn
        rw [if_neg a3, a4]
        rw [Int32.le_iff_toInt_le]
        omega
      rw [f1, f2, if_pos f3]
      rfl
    · exact absurd a1 w
  · unfold FX12_step
    rw [if_pos a1, if_pos a2, if_neg a3, if_pos a4]
theorem go_noo2 {z : zT} {h g : ph_H} {t : Int32} (R : RCo2 h g) (I : IM z g) (ht : iv 0 3 t) (c : FX12_canGo t g = 0) : FX3_go_oc2 t h = (-1, h) := by
  unfold FX3_go_oc2
  rw [canGo_eqo2 R I ht, if_pos c]
end MG_48_x18A8o2
section MG_48_x19B1o2
/-! BEGIN on both sides -/
theorem fill_16o2 : ∀ (q : Nat) (v x n : Int32) (h : ph_H), 0 ≤ x.toInt → x.toInt ≤ n.toInt → n.toInt ≤ 1000 → n.toInt - x.toInt < (q : Int) → (∀ k i, ¬ k = 26 → FJ7_fill_53178_k26_5 q v x n h k i = h k i) ∧ (∀ i : Nat, x.toInt ≤ i → (i : Int) < n.toInt → FJ7_fill_53178_k26_5 q v x n h 26 i = v) ∧ (∀ i : Nat, (i : Int) < x.toInt → FJ7_fill_53178_k26_5 q v x n h 26 i = h 26 i)
  | 0, v, x, n, h, a, b, c, m => by omega
  | q + 1, v, x, n, h, a, b, c, m => by
    have k1 : (1 : Int32).toInt = 1 := by decide
    unfold FJ7_fill_53178_k26_5
    by_cases d : n ≤ x
    · rw [if_pos d]
      rw [Int32.le_iff_toInt_le] at d
      exact ⟨fun _ _ _ => rfl, fun i e f => by omega, fun _ _ => rfl⟩
    · rw [if_neg d]
      rw [Int32.le_iff_toInt_le] at d
      have e1 : (x + 1).toInt = x.toInt + 1 := by rw [ti_add (by omega) (by omega), k1]
      have xn : (x.toNatClampNeg : Int) = x.toInt := by
        rw [← Int32.toNat_toInt]
        omega
      obtain ⟨a1, a2, a3⟩ := fill_16o2 q v (x + 1) n (hs h 26 x.toNatClampNeg v) (by omega) (by omega) c (by omega)
      refine ⟨fun k i e => ?_, fun i e f => ?_, fun i e => ?_⟩
      · rw [a1 k i e, hs_o (fun w => e w.1)]
      · by_cases g : (i : Int) = x.toInt
        · rw [a3 i (by omega), hs_get, if_pos rfl, if_pos (by omega)]
        · exact a2 i (by omega) f
      · rw [a3 i (by omega), hs_o (fun w => by omega)]
theorem fill_17o2 : ∀ (q : Nat) (v x n : Int32) (h : ph_H), 0 ≤ x.toInt → x.toInt ≤ n.toInt → n.toInt ≤ 1000 → n.toInt - x.toInt < (q : Int) → (∀ k i, ¬ k = 27 → FJ7_fill_53178_k27_5 q v x n h k i = h k i) ∧ (∀ i : Nat, x.toInt ≤ i → (i : Int) < n.toInt → FJ7_fill_53178_k27_5 q v x n h 27 i = v) ∧ (∀ i : Nat, (i : Int) < x.toInt → FJ7_fill_53178_k27_5 q v x n h 27 i = h 27 i)
  | 0, v, x, n, h, a, b, c, m => by omega
  | q + 1, v, x, n, h, a, b, c, m => by
    have k1 : (1 : Int32).toInt = 1 := by decide
    unfold FJ7_fill_53178_k27_5
    by_cases d : n ≤ x
    · rw [if_pos d]
      rw [Int32.le_iff_toInt_le] at d
      exact ⟨fun _ _ _ => rfl, fun i e f => by omega, fun _ _ => rfl⟩
    · rw [if_neg d]
      rw [Int32.le_iff_toInt_le] at d
      have e1 : (x + 1).toInt = x.toInt + 1 := by rw [ti_add (by omega) (by omega), k1]
      have xn : (x.toNatClampNeg : Int) = x.toInt := by
        rw [← Int32.toNat_toInt]
        omega
      obtain ⟨a1, a2, a3⟩ := fill_17o2 q v (x + 1) n (hs h 27 x.toNatClampNeg v) (by omega) (by omega) c (by omega)
      refine ⟨fun k i e => ?_, fun i e f => ?_, fun i e => ?_⟩
      · rw [a1 k i e, hs_o (fun w => e w.1)]
      · by_cases g : (i : Int) = x.toInt
        · rw [a3 i (by omega), hs_get, if_pos rfl, if_pos (by omega)]
        · exact a2 i (by omega) f
      · rw [a3 i (by omega), hs_o (fun w => by omega)]
theorem fill_18o2 : ∀ (q : Nat) (v x n : Int32) (h : ph_H), 0 ≤ x.toInt → x.toInt ≤ n.toInt → n.toInt ≤ 1000 → n.toInt - x.toInt < (q : Int) → (∀ k i, ¬ k = 28 → FJ7_fill_53178_k28_5 q v x n h k i = h k i) ∧ (∀ i : Nat, x.toInt ≤ i → (i : Int) < n.toInt → FJ7_fill_53178_k28_5 q v x n h 28 i = v) ∧ (∀ i : Nat, (i : Int) < x.toInt → FJ7_fill_53178_k28_5 q v x n h 28 i = h 28 i)
  | 0, v, x, n, h, a, b, c, m => by omega
  | q + 1, v, x, n, h, a, b, c, m => by
    have k1 : (1 : Int32).toInt = 1 := by decide
    unfold FJ7_fill_53178_k28_5
    by_cases d : n ≤ x
    · rw [if_pos d]
      rw [Int32.le_iff_toInt_le] at d
      exact ⟨fun _ _ _ => rfl, fun i e f => by omega, fun _ _ => rfl⟩
    · rw [if_neg d]
      rw [Int32.le_iff_toInt_le] at d
      have e1 : (x + 1).toInt = x.toInt + 1 := by rw [ti_add (by omega) (by omega), k1]
      have xn : (x.toNatClampNeg : Int) = x.toInt := by
        rw [← Int32.toNat_toInt]
        omega
      obtain ⟨a1, a2, a3⟩ := fill_18o2 q v (x + 1) n (hs h 28 x.toNatClampNeg v) (by omega) (by omega) c (by omega)
      refine ⟨fun k i e => ?_, fun i e f => ?_, fun i e => ?_⟩
      · rw [a1 k i e, hs_o (fun w => e w.1)]
      · by_cases g : (i : Int) = x.toInt
        · rw [a3 i (by omega), hs_get, if_pos rfl, if_pos (by omega)]
        · exact a2 i (by omega) f
      · rw [a3 i (by omega), hs_o (fun w => by omega)]
theorem fill_19o2 : ∀ (q : Nat) (v x n : Int32) (h : ph_H), 0 ≤ x.toInt → x.toInt ≤ n.toInt → n.toInt ≤ 1000 → n.toInt - x.toInt < (q : Int) → (∀ k i, ¬ k = 29 → FJ7_fill_53178_k29_5 q v x n h k i = h k i) ∧ (∀ i : Nat, x.toInt ≤ i → (i : Int) < n.toInt → FJ7_fill_53178_k29_5 q v x n h 29 i = v) ∧ (∀ i : Nat, (i : Int) < x.toInt → FJ7_fill_53178_k29_5 q v x n h 29 i = h 29 i)
  | 0, v, x, n, h, a, b, c, m => by omega
  | q + 1, v, x, n, h, a, b, c, m => by
    have k1 : (1 : Int32).toInt = 1 := by decide
    unfold FJ7_fill_53178_k29_5
    by_cases d : n ≤ x
    · rw [if_pos d]
      rw [Int32.le_iff_toInt_le] at d
      exact ⟨fun _ _ _ => rfl, fun i e f => by omega, fun _ _ => rfl⟩
    · rw [if_neg d]
      rw [Int32.le_iff_toInt_le] at d
      have e1 : (x + 1).toInt = x.toInt + 1 := by rw [ti_add (by omega) (by omega), k1]
      have xn : (x.toNatClampNeg : Int) = x.toInt := by
        rw [← Int32.toNat_toInt]
        omega
      obtain ⟨a1, a2, a3⟩ := fill_19o2 q v (x + 1) n (hs h 29 x.toNatClampNeg v) (by omega) (by omega) c (by omega)
      refine ⟨fun k i e => ?_, fun i e f => ?_, fun i e => ?_⟩
      · rw [a1 k i e, hs_o (fun w => e w.1)]
      · by_cases g : (i : Int) = x.toInt
        · rw [a3 i (by omega), hs_get, if_pos rfl, if_pos (by omega)]
        · exact a2 i (by omega) f
      · rw [a3 i (by omega), hs_o (fun w => by omega)]
theorem cbego2 (kv : Int32) (h : ph_H) : (∀ i, i < 28 → FX3_begin_ot kv h 26 i = 0) ∧ (∀ i, i < 28 → FX3_begin_ot kv h 27 i = if i < 12 then h 11 i else 0) ∧ (∀ t, t < 4 → FX3_begin_ot kv h 28 t = 0) ∧ (∀ t, t < 4 → FX3_begin_ot kv h 29 t = if t = 0 then 1 else 0) ∧ FX3_begin_ot kv h 25 10 = 0 ∧ FX3_begin_ot kv h 25 11 = kv ∧ FX3_begin_ot kv h 25 12 = 0 ∧ (∀ k i, ¬ (25 ≤ k ∧ k ≤ 29) → FX3_begin_ot kv h k i = h k i) := by
  have k28 : (28 : Int32).toInt = 28 := by decide
  have k4 : (4 : Int32).toInt = 4 := by decide
  have k0 : (0 : Int32).toInt = 0 := by decide
  have n0 : (0 : Int32).toNatClampNeg = 0 := by decide
  have n12 : (12 : Int32).toNatClampNeg = 12 := by decide
  unfold FX3_begin_ot FX3_begin_ot_13 FX3_begin_ot_21 FX3_begin_ot_44 FX3_begin_ot_52 FJ7_fill_53178_k26 FJ7_fill_53178_k27 FJ7_fill_53178_k28 FJ7_fill_53178_k29
  obtain ⟨a1, a2, -⟩ := fill_16o2 2000 0 0 28 h (by decide) (by decide) (by decide) (by decide)
  generalize FJ7_fill_53178_k26_5 2000 0 0 28 h = h1 at *
  obtain ⟨b1, b2, -⟩ := fill_17o2 2000 0 0 28 h1 (by decide) (by decide) (by decide) (by decide)
  generalize FJ7_fill_53178_k27_5 2000 0 0 28 h1 = h2 at *
  have c0 : ∀ k i, ¬ k = 27 → hc h2 11 27 0 0 12 k i = h2 k i := fun k i e => hc_o e
  have c1 : ∀ i, hc h2 11 27 0 0 12 27 i = if i < 12 then h2 11 i else h2 27 i := fun i => by
    rw [hc_at, n12]
  generalize hc h2 11 27 0 0 12 = h3 at *
  obtain ⟨d1, d2, -⟩ := fill_18o2 2000 0 0 4 h3 (by decide) (by decide) (by decide) (by decide)
  generalize FJ7_fill_53178_k28_5 2000 0 0 4 h3 = h4 at *
  obtain ⟨e1, e2, -⟩ := fill_19o2 2000 0 0 4 h4 (by decide) (by decide) (by decide) (by decide)
  generalize FJ7_fill_53178_k29_5 2000 0 0 4 h4 = h5 at *
  rw [n0]
  refine ⟨fun i hi => ?_, fun i hi => ?_, fun t ht => ?_, fun t ht => ?_, ?_, ?_, ?_, fun k i q => ?_⟩
  · rw [hs_o (by simp), hs_o (by simp), hs_o (by simp), hs_o (by simp), e1 _ _ (by decide), d1 _ _ (by decide), c0 _ _ (by decide), b1 _ _ (by decide), a2 i (by omega) (by omega)]
  · rw [hs_o (by simp), hs_o (by simp), hs_o (by simp), hs_o (by simp), e1 _ _ (by decide), d1 _ _ (by decide), c1 i, b1 _ _ (by decide), a1 _ _ (by decide), b2 i (by omega) (by omega)]
  · rw [hs_o (by simp), hs_o (by simp), hs_o (by simp), hs_o (by simp), e1 _ _ (by decide), d2 t (by omega) (by omega)]
  · rw [hs_o (by simp), hs_o (by simp), hs_o (by simp), hs_get, if_pos rfl]
    by_cases c : t = 0
    · rw [if_pos c, if_pos c]
    · rw [if_neg c, if_neg c, e2 t (by omega) (by omega)]
  · rw [hs_o (by simp), hs_o (by simp), hs_self]
  · rw [hs_o (by simp), hs_self]
  · rw [hs_self]
  · rw [hs_o (by omega), hs_o (by omega), hs_o (by omega), hs_o (by omega), e1 _ _ (by omega), d1 _ _ (by omega), c0 _ _ (by omega), b1 _ _ (by omega), a1 _ _ (by omega)]
def PRo2 (h g : ph_H) : Prop := Rpro2 h g ∧ (∀ c, c < 12 → h 11 c = g 6 c) ∧ (∀ i, iv 0 19 (g 2 i))
theorem begin_RCo2 {h g : ph_H} {kv : Int32} (p : PRo2 h g) (e : kv = kn g) (n : 0 ≤ (kn g).toInt) (v : ∀ k : Nat, (k : Int) < (kn g).toInt → h 12 k = vi g k) : RCo2 (FX3_begin_ot kv h) (FX12_begin g) := by
  obtain ⟨c1, c2, c3, c4, c5, c6, c7, c8⟩ := cbego2 kv h
  obtain ⟨r1, r2, r3, r4⟩ := rbeg g
  have k0 : (0 : Int32).toInt = 0 := by decide
  have kn1 : (-1 : Int32).toInt = -1 := by decide
  have ek : kn (FX12_begin g) = kn g := by
    unfold kn
    rw [r4, r4, r4]
    simp
  have ev : ∀ k, vi (FX12_begin g) k = vi g k := fun k => by
    unfold vi
    rw [r4, r3 7 k (by decide) (by decide), r3 36 k (by decide) (by decide)]
    simp
  have e18 : FX12_begin g 0 18 = 0 := by rw [r4]; simp
  have e23 : FX12_begin g 0 23 = 0 := by rw [r4]; simp
  refine ⟨fun i hi => ?_, fun t ht => ?_, fun t ht => ?_, ⟨?_, fun x hx => ?_⟩, ⟨?_, ?_, ?_, fun k hk => ?_⟩, ⟨fun t ht => ?_, fun i hi => ?_⟩, ⟨fun k hk => ?_, fun t ht => ?_, fun i => ?_⟩⟩
  · obtain ⟨a, b⟩ := r1 i hi
    rw [c1 i hi, c2 i hi, a, b]
    refine ⟨rfl, ?_⟩
    by_cases c : i < 12
    · rw [if_pos c, if_pos c]
      exact p.2.1 i c
    · rw [if_neg c, if_neg c]
  · rw [c3 t ht, (r2 t ht).1, r3 1 t (by decide) (by decide)]
    unfold nrm
    rw [if_neg (by decide)]
    by_cases c : g 1 t ≤ 0
    · rw [if_pos c, if_neg (fun w => by
        rw [Int32.lt_iff_toInt_lt] at w
        rw [Int32.le_iff_toInt_le] at c
        omega)]
    · rw [if_neg c, if_pos (nle c)]
  · obtain ⟨a, b, c, d⟩ := r2 t ht
    rw [c4 t ht, b, c, d]
    by_cases w : t = 0
    · rw [if_pos w]
      exact Or.inr (Or.inl ⟨rfl, rfl, rfl, rfl⟩)
    · rw [if_neg w]
      exact Or.inl ⟨rfl, rfl, rfl, rfl⟩
  · rw [c5, e18]
  · rw [e18, k0] at hx
    omega
  · rw [c7, e23]
  · rw [c6, ek, e]
  · rw [e23, ek, k0]
    exact n
  · rw [c8 _ _ (by decide), ev]
    exact v k (by rw [ek] at hk; exact hk)
  · rw [c8 _ _ (by decide), r3 1 t (by decide) (by decide)]
    exact p.1.1 t ht
  · rw [c8 _ _ (by decide), c8 _ _ (by decide), c8 _ _ (by decide), c8 _ _ (by decide), r3 2 i (by decide) (by decide), r3 3 i (by decide) (by decide), r3 4 i (by decide) (by decide), r3 5 i (by decide) (by decide)]
    exact p.1.2 i hi
  · exact Or.inl (r1 k hk).1
  · obtain ⟨a, b, c, d⟩ := r2 t ht
    rw [c, d, e18, k0, kn1]
    omega
  · rw [r3 2 i (by decide) (by decide)]
    exact p.2.2 i
end MG_48_x19B1o2
