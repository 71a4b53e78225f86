/-! KEPT ROWS: what keep writes -/
theorem state_c {t : Int32} {g g' : ph_H} (e2 : ∀ i, g' 2 i = g 2 i) (e3 : ∀ i, g' 3 i = g 3 i) (e10 : ∀ i, g' 10 i = g 10 i) (e11 : ∀ i, g' 11 i = g 11 i) (e12 : ∀ i, g' 12 i = g 12 i) (e13 : ∀ i, g' 13 i = g 13 i) (e14 : ∀ i, g' 14 i = g 14 i) (e15 : ∀ i, g' 15 i = g 15 i) (e17 : ∀ i, g' 17 i = g 17 i) : FX12_state t g' = FX12_state t g := by
  unfold FX12_state FX12_canGo FX12_canGo_107 FX12_canGo_108 FX12_canGo_144 FX12_isLock FX12_isLock_20 FX12_local
  simp only [e2, e3, e10, e11, e12, e13, e14, e15, e17]
theorem kp171 {th : Int} : ∀ (q : Nat) (s x : Int32) (g : ph_H), iv 0 300 s → (g 0 18).toInt = th → 0 ≤ th → th ≤ 12 → 0 ≤ x.toInt → x.toInt ≤ 16 * th → 16 * th - x.toInt < (q : Int) → (∀ i : Nat, x.toInt ≤ i → (i : Int) < 16 * th → FX12_keep_171 q s x g 28 (192 * s.toNatClampNeg + i) = g 19 i) ∧ (∀ j : Nat, (j : Int) < 192 * s.toInt + x.toInt → FX12_keep_171 q s x g 28 j = g 28 j)
  | 0, s, x, g, f, et, t0, t1, x0, x1, m => by omega
  | q + 1, s, x, g, f, et, t0, t1, x0, x1, m => by
    have k1 : (1 : Int32).toInt = 1 := by decide
    have k16 : (16 : Int32).toInt = 16 := by decide
    have k192 : (192 : Int32).toInt = 192 := by decide
    have sn := iv_nat f rfl
    have f' := f
    unfold iv at f
    have em : (16 * g 0 18).toInt = 16 * th := by rw [ti_mul (by rw [k16, et]; omega) (by rw [k16, et]; omega), k16, et]
    unfold FX12_keep_171
    by_cases c : 16 * g 0 18 ≤ x
    · rw [if_pos c]
      rw [Int32.le_iff_toInt_le, em] at c
      exact ⟨fun i a b => by omega, fun _ _ => rfl⟩
    · rw [if_neg c]
      rw [Int32.le_iff_toInt_le, em] at c
      have xn : (x.toNatClampNeg : Int) = x.toInt := by
        rw [← Int32.toNat_toInt]
        omega
      have e1 : (x + 1).toInt = x.toInt + 1 := by rw [ti_add (by omega) (by omega), k1]
      have es : (192 * s).toInt = 192 * s.toInt := by rw [ti_mul (by rw [k192]; omega) (by rw [k192]; omega), k192]
      have ea : (192 * s + x).toInt = 192 * s.toInt + x.toInt := by rw [ti_add (by omega) (by omega), es]
      have ix : ((192 * s + x).toNatClampNeg : Int) = 192 * s.toInt + x.toInt := by
        rw [← Int32.toNat_toInt]
        omega
      obtain ⟨a1, a2⟩ := kp171 (th := th) q s (x + 1) (hs g 28 (192 * s + x).toNatClampNeg (g 19 x.toNatClampNeg)) f' (by rw [hs_o (by simp)]; exact et) t0 t1 (by omega) (by omega) (by omega)
      refine ⟨fun i p r => ?_, fun j p => ?_⟩
      · by_cases d : (i : Int) = x.toInt
        · have ii : 192 * s.toNatClampNeg + i = (192 * s + x).toNatClampNeg := by omega
          have dx : i = x.toNatClampNeg := by omega
          rw [a2 _ (by omega), ii, hs_self, dx]
        · rw [a1 i (by omega) r, hs_o (by simp)]
      · rw [a2 j (by omega), hs_o (fun w => by omega)]
theorem kp104 {th : Int} : ∀ (q : Nat) (s x : Int32) (g : ph_H), iv 0 300 s → (g 0 18).toInt = th → 0 ≤ th → th ≤ 12 → 0 ≤ x.toInt → x.toInt ≤ th → th - x.toInt < (q : Int) → (∀ i : Nat, x.toInt ≤ i → (i : Int) < th → FX12_keep_104 q s x g 25 (12 * s.toNatClampNeg + i) = g 16 i ∧ FX12_keep_104 q s x g 26 (12 * s.toNatClampNeg + i) = g 17 i ∧ FX12_keep_104 q s x g 27 (12 * s.toNatClampNeg + i) = g 18 i) ∧ (∀ j : Nat, (j : Int) < 12 * s.toInt + x.toInt → FX12_keep_104 q s x g 25 j = g 25 j ∧ FX12_keep_104 q s x g 26 j = g 26 j ∧ FX12_keep_104 q s x g 27 j = g 27 j) ∧ (∀ i : Nat, (i : Int) < 16 * th → FX12_keep_104 q s x g 28 (192 * s.toNatClampNeg + i) = g 19 i) ∧ (∀ j : Nat, (j : Int) < 192 * s.toInt → FX12_keep_104 q s x g 28 j = g 28 j)
  | 0, s, x, g, f, et, t0, t1, x0, x1, m => by omega
  | q + 1, s, x, g, f, et, t0, t1, x0, x1, m => by
    have k1 : (1 : Int32).toInt = 1 := by decide
    have k0 : (0 : Int32).toInt = 0 := by decide
    have k12 : (12 : Int32).toInt = 12 := by decide
    have sn := iv_nat f rfl
    have f' := f
    unfold iv at f
    unfold FX12_keep_104
    by_cases c : g 0 18 ≤ x
    · rw [if_pos c]
      rw [Int32.le_iff_toInt_le, et] at c
      have e : EQ pK28 g (FX12_keep_171 2000 s 0 g) := fr28_FX12_keep_171 _ _ _ _ (EQ_r g)
      obtain ⟨a1, a2⟩ := kp171 (th := th) 2000 s 0 g f' et t0 t1 (by decide) (by omega) (by omega)
      exact ⟨fun i a b => by omega, fun j _ => ⟨e 25 j rfl, e 26 j rfl, e 27 j rfl⟩, fun i hi => a1 i (by omega) hi, fun j hj => a2 j (by omega)⟩
    · rw [if_neg c]
      rw [Int32.le_iff_toInt_le, et] at c
      have xn : (x.toNatClampNeg : Int) = x.toInt := by
        rw [← Int32.toNat_toInt]
        omega
      have e1 : (x + 1).toInt = x.toInt + 1 := by rw [ti_add (by omega) (by omega), k1]
      have es : (12 * s).toInt = 12 * s.toInt := by rw [ti_mul (by rw [k12]; omega) (by rw [k12]; omega), k12]
      have ea : (12 * s + x).toInt = 12 * s.toInt + x.toInt := by rw [ti_add (by omega) (by omega), es]
      have ix : ((12 * s + x).toNatClampNeg : Int) = 12 * s.toInt + x.toInt := by
        rw [← Int32.toNat_toInt]
        omega
      obtain ⟨a1, a2, a3, a4⟩ := kp104 (th := th) q s (x + 1) (hs (hs (hs g 25 (12 * s + x).toNatClampNeg (g 16 x.toNatClampNeg)) 26 (12 * s + x).toNatClampNeg (g 17 x.toNatClampNeg)) 27 (12 * s + x).toNatClampNeg (g 18 x.toNatClampNeg)) f' (by rw [hs_o (by simp), hs_o (by simp), hs_o (by simp)]; exact et) t0 t1 (by omega) (by omega) (by omega)
      refine ⟨fun i p r => ?_, fun j p => ?_, fun i p => ?_, fun j p => ?_⟩
      · by_cases d : (i : Int) = x.toInt
        · have ii : 12 * s.toNatClampNeg + i = (12 * s + x).toNatClampNeg := by omega
          have dx : i = x.toNatClampNeg := by omega
          obtain ⟨b1, b2, b3⟩ := a2 (12 * s.toNatClampNeg + i) (by omega)
          rw [b1, b2, b3, ii, dx]
          refine ⟨?_, ?_, ?_⟩
          · rw [hs_o (by simp), hs_o (by simp), hs_self]
          · rw [hs_o (by simp), hs_self]
          · rw [hs_self]
        · obtain ⟨b1, b2, b3⟩ := a1 i (by omega) r
          rw [b1, b2, b3]
          simp [hs_get]
      · have n : ¬ j = (12 * s + x).toNatClampNeg := by omega
        obtain ⟨b1, b2, b3⟩ := a2 j (by omega)
        rw [b1, b2, b3]
        simp [hs_get, n]
      · rw [a3 i p]
        simp [hs_get]
      · rw [a4 j p]
        simp [hs_get]
def KRr (g : ph_H) (s : Nat) (G : ph_H) : Prop := (∀ x : Nat, (x : Int) < (G 0 18).toInt → g 25 (12 * s + x) = G 16 x ∧ g 26 (12 * s + x) = G 17 x ∧ g 27 (12 * s + x) = G 18 x) ∧ (∀ i : Nat, (i : Int) < 16 * (G 0 18).toInt → g 28 (192 * s + i) = G 19 i)
def KR (g : ph_H) (s : Nat) (G : ph_H) : Prop := (∀ k, k < 28 → g 20 (28 * s + k) = G 10 k ∧ g 21 (28 * s + k) = G 11 k) ∧ (∀ t : Int32, iv 0 3 t → g 22 (4 * s + t.toNatClampNeg) = G 12 t.toNatClampNeg ∧ g 23 (4 * s + t.toNatClampNeg) = FX12_state t G) ∧ g 24 s = G 0 18 ∧ KRr g s G
theorem kp50 {th : Int} : ∀ (q : Nat) (s x : Int32) (g : ph_H), iv 0 300 s → (g 0 18).toInt = th → 0 ≤ th → th ≤ 12 → iv 0 4 x → 4 - x.toInt < (q : Int) → (∀ t : Int32, x.toInt ≤ t.toInt → t.toInt < 4 → FX12_keep_50 q s x g 22 (4 * s.toNatClampNeg + t.toNatClampNeg) = g 12 t.toNatClampNeg ∧ FX12_keep_50 q s x g 23 (4 * s.toNatClampNeg + t.toNatClampNeg) = FX12_state t g) ∧ (∀ j : Nat, (j : Int) < 4 * s.toInt + x.toInt → FX12_keep_50 q s x g 22 j = g 22 j ∧ FX12_keep_50 q s x g 23 j = g 23 j) ∧ (FX12_keep_50 q s x g 24 s.toNatClampNeg = g 0 18 ∧ ∀ j : Nat, ¬ j = s.toNatClampNeg → FX12_keep_50 q s x g 24 j = g 24 j) ∧ KRr (FX12_keep_50 q s x g) s.toNatClampNeg g ∧ (∀ j : Nat, ((j : Int) < 12 * s.toInt → FX12_keep_50 q s x g 25 j = g 25 j ∧ FX12_keep_50 q s x g 26 j = g 26 j ∧ FX12_keep_50 q s x g 27 j = g 27 j) ∧ ((j : Int) < 192 * s.toInt → FX12_keep_50 q s x g 28 j = g 28 j))
  | 0, s, x, g, f, et, t0, t1, fx, m => by unfold iv at fx; omega
  | q + 1, s, x, g, f, et, t0, t1, fx, m => by
    have k1 : (1 : Int32).toInt = 1 := by decide
    have k0 : (0 : Int32).toInt = 0 := by decide
    have k4 : (4 : Int32).toInt = 4 := by decide
    have sn := iv_nat f rfl
    have xn := iv_nat fx rfl
    have f' := f
    unfold iv at f fx
    unfold FX12_keep_50
    by_cases c : 4 ≤ x
    · rw [if_pos c]
      rw [Int32.le_iff_toInt_le, k4] at c
      have e := fr4_FX12_keep_104 (h0 := hs g 24 s.toNatClampNeg (g 0 18)) 2000 s 0 _ (EQ_r _)
      obtain ⟨a1, a2, a3, a4⟩ := kp104 (th := th) 2000 s 0 (hs g 24 s.toNatClampNeg (g 0 18)) f' (by rw [hs_o (by simp)]; exact et) t0 t1 (by decide) (by omega) (by omega)
      generalize FX12_keep_104 2000 s 0 (hs g 24 s.toNatClampNeg (g 0 18)) = G at *
      have o : ∀ k i, ¬ k = 24 → hs g 24 s.toNatClampNeg (g 0 18) k i = g k i := fun k i q => hs_o (fun w => q w.1)
      refine ⟨fun t p r => by omega, fun j p => ?_, ⟨?_, fun j p => ?_⟩, ⟨fun i p => ?_, fun i p => ?_⟩, fun j => ⟨fun p => ?_, fun p => ?_⟩⟩
      · rw [e 22 j rfl, e 23 j rfl, o 22 j (by decide), o 23 j (by decide)]
        exact ⟨rfl, rfl⟩
      · rw [e 24 _ rfl, hs_self]
      · rw [e 24 j rfl, hs_o (fun w => p w.2)]
      · obtain ⟨b1, b2, b3⟩ := a1 i (by omega) (by omega)
        rw [b1, b2, b3, o _ _ (by decide), o _ _ (by decide), o _ _ (by decide)]
        exact ⟨rfl, rfl, rfl⟩
      · rw [a3 i (by omega), o _ _ (by decide)]
      · obtain ⟨b1, b2, b3⟩ := a2 j (by omega)
        rw [b1, b2, b3, o _ _ (by decide), o _ _ (by decide), o _ _ (by decide)]
        exact ⟨rfl, rfl, rfl⟩
      · rw [a4 j p, o _ _ (by decide)]
    · rw [if_neg c]
      rw [Int32.le_iff_toInt_le, k4] at c
      have e1 : (x + 1).toInt = x.toInt + 1 := by rw [ti_add (by omega) (by omega), k1]
      have es : (4 * s).toInt = 4 * s.toInt := by rw [ti_mul (by rw [k4]; omega) (by rw [k4]; omega), k4]
      have ea : (4 * s + x).toInt = 4 * s.toInt + x.toInt := by rw [ti_add (by omega) (by omega), es]
      have ix : ((4 * s + x).toNatClampNeg : Int) = 4 * s.toInt + x.toInt := by
        rw [← Int32.toNat_toInt]
        omega
      have sc : ∀ (t : Int32) (v w : Int32), FX12_state t (hs (hs g 22 (4 * s + x).toNatClampNeg v) 23 (4 * s + x).toNatClampNeg w) = FX12_state t g := fun t v w => state_c (fun i => by simp [hs_get]) (fun i => by simp [hs_get]) (fun i => by simp [hs_get]) (fun i => by simp [hs_get]) (fun i => by simp [hs_get]) (fun i => by simp [hs_get]) (fun i => by simp [hs_get]) (fun i => by simp [hs_get]) (fun i => by simp [hs_get])
      have sc1 : ∀ (t : Int32) (v : Int32), FX12_state t (hs g 22 (4 * s + x).toNatClampNeg v) = FX12_state t g := fun t v => state_c (fun i => by simp [hs_get]) (fun i => by simp [hs_get]) (fun i => by simp [hs_get]) (fun i => by simp [hs_get]) (fun i => by simp [hs_get]) (fun i => by simp [hs_get]) (fun i => by simp [hs_get]) (fun i => by simp [hs_get]) (fun i => by simp [hs_get])
      rw [sc1]
      obtain ⟨a1, a2, a3, a4, a5⟩ := kp50 (th := th) q s (x + 1) (hs (hs g 22 (4 * s + x).toNatClampNeg (g 12 x.toNatClampNeg)) 23 (4 * s + x).toNatClampNeg (FX12_state x g)) f' (by rw [hs_o (by simp), hs_o (by simp)]; exact et) t0 t1 (by unfold iv; omega) (by omega)
      generalize FX12_keep_50 q s (x + 1) (hs (hs g 22 (4 * s + x).toNatClampNeg (g 12 x.toNatClampNeg)) 23 (4 * s + x).toNatClampNeg (FX12_state x g)) = G at *
      have o : ∀ k i, ¬ k = 22 → ¬ k = 23 → hs (hs g 22 (4 * s + x).toNatClampNeg (g 12 x.toNatClampNeg)) 23 (4 * s + x).toNatClampNeg (FX12_state x g) k i = g k i := fun k i q r => by rw [hs_o (fun w => r w.1), hs_o (fun w => q w.1)]
      refine ⟨fun t p r => ?_, fun j p => ?_, ?_, ?_, ?_⟩
      · have tn : (t.toNatClampNeg : Int) = t.toInt := by
          rw [← Int32.toNat_toInt]
          omega
        by_cases d : t.toInt = x.toInt
        · have dx : t = x := tI d
          subst dx
          have ii : 4 * s.toNatClampNeg + t.toNatClampNeg = (4 * s + t).toNatClampNeg := by omega
          obtain ⟨b1, b2⟩ := a2 (4 * s.toNatClampNeg + t.toNatClampNeg) (by omega)
          rw [b1, b2, ii, hs_o (by simp), hs_self, hs_self]
          exact ⟨rfl, rfl⟩
        · obtain ⟨b1, b2⟩ := a1 t (by omega) r
          rw [b1, b2, sc, o _ _ (by decide) (by decide)]
          exact ⟨rfl, rfl⟩
      · have n : ¬ j = (4 * s + x).toNatClampNeg := by omega
        obtain ⟨b1, b2⟩ := a2 j (by omega)
        rw [b1, b2]
        simp [hs_get, n]
      · refine ⟨a3.1.trans (o _ _ (by decide) (by decide)), fun j p => (a3.2 j p).trans (o _ _ (by decide) (by decide))⟩
      · refine ⟨fun i p => ?_, fun i p => ?_⟩
        · obtain ⟨b1, b2, b3⟩ := a4.1 i (by rw [o _ _ (by decide) (by decide)]; exact p)
          rw [b1, b2, b3, o _ _ (by decide) (by decide), o _ _ (by decide) (by decide), o _ _ (by decide) (by decide)]
          exact ⟨rfl, rfl, rfl⟩
        · rw [a4.2 i (by rw [o _ _ (by decide) (by decide)]; exact p), o _ _ (by decide) (by decide)]
      · intro j
        refine ⟨fun p => ?_, fun p => ?_⟩
        · obtain ⟨b1, b2, b3⟩ := (a5 j).1 p
          rw [b1, b2, b3, o _ _ (by decide) (by decide), o _ _ (by decide) (by decide), o _ _ (by decide) (by decide)]
          exact ⟨rfl, rfl, rfl⟩
        · rw [(a5 j).2 p, o _ _ (by decide) (by decide)]
/-- the loop over slots leads into the loop over THREADS -/
theorem kp2r : ∀ (q : Nat) (s x : Int32) (g : ph_H), iv 0 28 x → 28 - x.toInt < (q : Int) → ∃ g', FX12_keep_2 q s x g = FX12_keep_50 2000 s 0 g' ∧ ∀ k i, ¬ k = 20 → ¬ k = 21 → g' k i = g k i
  | 0, s, x, g, f, m => by unfold iv at f; omega
  | q + 1, s, x, g, f, m => by
    have k1 : (1 : Int32).toInt = 1 := by decide
    have k28 : (28 : Int32).toInt = 28 := by decide
    unfold iv at f
    unfold FX12_keep_2
    by_cases c : 28 ≤ x
    · rw [if_pos c]
      exact ⟨g, rfl, fun _ _ _ _ => rfl⟩
    · rw [if_neg c]
      rw [Int32.le_iff_toInt_le, k28] at c
      have e1 : (x + 1).toInt = x.toInt + 1 := by rw [ti_add (by omega) (by omega), k1]
      obtain ⟨g', a1, a2⟩ := kp2r q s (x + 1) (hs (hs g 20 (28 * s + x).toNatClampNeg (g 10 x.toNatClampNeg)) 21 (28 * s + x).toNatClampNeg (g 11 x.toNatClampNeg)) (by unfold iv; omega) (by omega)
      exact ⟨g', a1, fun k i q r => by rw [a2 k i q r, hs_o (fun w => r w.1), hs_o (fun w => q w.1)]⟩
theorem keep_KR {s : Int32} {g : ph_H} (f : iv 0 300 s) (t0 : 0 ≤ (g 0 18).toInt) (t1 : (g 0 18).toInt ≤ 12) : KR (FX12_keep s g) s.toNatClampNeg g ∧ ∀ (s' : Nat) (G : ph_H), (s' : Int) < s.toInt → (G 0 18).toInt ≤ 12 → KR g s' G → KR (FX12_keep s g) s' G := by
  have sn := iv_nat f rfl
  have k0 : (0 : Int32).toInt = 0 := by decide
  have f' := f
  unfold iv at f
  obtain ⟨a1, a2⟩ := kp2 2000 s 0 g f' ⟨by decide, by decide⟩ (by decide)
  obtain ⟨g', b1, b2⟩ := kp2r 2000 s 0 g ⟨by decide, by decide⟩ (by decide)
  have e18 := b2 0 18 (by decide) (by decide)
  obtain ⟨c1, c2, c3, c4, c5⟩ := kp50 (th := (g 0 18).toInt) 2000 s 0 g' f' (by rw [e18]) t0 t1 ⟨by decide, by decide⟩ (by decide)
  have st : ∀ t, FX12_state t g' = FX12_state t g := fun t => state_c (fun i => b2 _ i (by decide) (by decide)) (fun i => b2 _ i (by decide) (by decide)) (fun i => b2 _ i (by decide) (by decide)) (fun i => b2 _ i (by decide) (by decide)) (fun i => b2 _ i (by decide) (by decide)) (fun i => b2 _ i (by decide) (by decide)) (fun i => b2 _ i (by decide) (by decide)) (fun i => b2 _ i (by decide) (by decide)) (fun i => b2 _ i (by decide) (by decide))
  rw [← b1] at c1 c2 c3 c4 c5
  show KR (FX12_keep_2 2000 s 0 g) s.toNatClampNeg g ∧ ∀ (s' : Nat) (G : ph_H), (s' : Int) < s.toInt → (G 0 18).toInt ≤ 12 → KR g s' G → KR (FX12_keep_2 2000 s 0 g) s' G
  generalize FX12_keep_2 2000 s 0 g = X at *
  refine ⟨⟨fun k hk => a1 k (by omega) hk, fun t ht => ?_, ?_, ⟨fun x hx => ?_, fun i hi => ?_⟩⟩, fun s' G hs' hG K => ⟨fun k hk => ?_, fun t ht => ?_, ?_, ⟨fun x hx => ?_, fun i hi => ?_⟩⟩⟩
  · unfold iv at ht
    obtain ⟨d1, d2⟩ := c1 t (by omega) (by omega)
    rw [d1, d2, st, b2 _ _ (by decide) (by decide)]
    exact ⟨rfl, rfl⟩
  · rw [c3.1, e18]
  · obtain ⟨d1, d2, d3⟩ := c4.1 x (by rw [e18]; exact hx)
    rw [d1, d2, d3, b2 _ _ (by decide) (by decide), b2 _ _ (by decide) (by decide), b2 _ _ (by decide) (by decide)]
    exact ⟨rfl, rfl, rfl⟩
  · rw [c4.2 i (by rw [e18]; exact hi), b2 _ _ (by decide) (by decide)]
  · obtain ⟨d1, d2⟩ := a2 (28 * s' + k) (by omega)
    rw [d1, d2]
    exact K.1 k hk
  · have tn := iv_nat ht rfl
    have ht' := ht
    unfold iv at ht
    obtain ⟨d1, d2⟩ := c2 (4 * s' + t.toNatClampNeg) (by omega)
    rw [d1, d2, b2 _ _ (by decide) (by decide), b2 _ _ (by decide) (by decide)]
    exact K.2.1 t ht'
  · rw [c3.2 s' (by omega), b2 _ _ (by decide) (by decide)]
    exact K.2.2.1
  · obtain ⟨d1, d2, d3⟩ := (c5 (12 * s' + x)).1 (by omega)
    rw [d1, d2, d3, b2 _ _ (by decide) (by decide), b2 _ _ (by decide) (by decide), b2 _ _ (by decide) (by decide)]
    exact K.2.2.2.1 x hx
  · rw [(c5 (192 * s' + i)).2 (by omega), b2 _ _ (by decide) (by decide)]
    exact K.2.2.2.2 i hi
