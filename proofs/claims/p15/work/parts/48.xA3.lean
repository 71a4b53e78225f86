/-! primitives: what one write on each side does to the relation -/
def rsf (i : Nat) : Bool := !(i == 7 || i == 18 || i == 23 || i == 33 || i == 34)
theorem rsf_ne {i : Nat} (q : rsf i = true) : ¬ 7 = i ∧ ¬ 18 = i ∧ ¬ 23 = i ∧ ¬ 33 = i ∧ ¬ 34 = i := by
  unfold rsf at q
  simp only [Bool.not_eq_true', Bool.or_eq_false_iff, beq_eq_false_iff_ne, ne_eq] at q
  omega
theorem RC.cs {h g : ph_H} (R : RC h g) {i : Nat} {v : Int32} (q : 12 < i) : RC (hs h 15 i v) g := by
  obtain ⟨r1, r2, r3, r4, r5, r6, r7⟩ := R
  have q0 : ¬ 10 = i := by omega
  have q1 : ¬ 11 = i := by omega
  have q2 : ¬ 12 = i := by omega
  refine ⟨?_, ?_, ?_, ?_, ?_, ?_, r7⟩
  · simpa [Rsl, hs_get] using r1
  · simpa [Rat, hs_get] using r2
  · simpa [Rmd, hs_get] using r3
  · simpa [Rth, hs_get, q0] using r4
  · simpa [Rin, hs_get, q1, q2] using r5
  · simpa [Rpr, hs_get] using r6
theorem RC.rs {h g : ph_H} (R : RC h g) {i : Nat} {v : Int32} (q : rsf i = true) : RC h (hs g 0 i v) := by
  obtain ⟨r1, r2, r3, r4, r5, r6, r7⟩ := R
  obtain ⟨q0, q1, q2, q3, q4⟩ := rsf_ne q
  refine ⟨?_, ?_, ?_, ?_, ?_, ?_, ?_⟩
  · simpa [Rsl, hs_get] using r1
  · simpa [Rat, hs_get] using r2
  · simpa [Rmd, hs_get] using r3
  · simpa [Rth, hs_get, q1] using r4
  · simpa [Rin, kn, vi, hs_get, q0, q2, q3, q4] using r5
  · simpa [Rpr, hs_get] using r6
  · simpa [LV, hs_get, q1] using r7
theorem RC.slot {h g : ph_H} (R : RC h g) {k : Nat} {kd v : Int32} (q : kd = 0 ∨ (0 ≤ v.toInt ∧ v.toInt < (g 0 18).toInt ∧ g 16 v.toNatClampNeg = kd)) : RC (hs (hs h 16 k kd) 17 k v) (hs (hs g 10 k kd) 11 k v) := by
  obtain ⟨r1, r2, r3, r4, r5, r6, r7⟩ := R
  refine ⟨?_, ?_, ?_, ?_, ?_, ?_, ?_⟩
  · intro i hi
    have := r1 i hi
    simp only [hs_get]
    by_cases e : i = k
    · simp [e]
    · simpa [e] using this
  · simpa [Rat, hs_get] using r2
  · simpa [Rmd, hs_get] using r3
  · simpa [Rth, hs_get] using r4
  · simpa [Rin, kn, vi, hs_get] using r5
  · simpa [Rpr, hs_get] using r6
  · refine ⟨fun i hi => ?_, by simpa [hs_get] using r7.2.1, by simpa [hs_get] using r7.2.2⟩
    have := r7.1 i hi
    by_cases e : i = k
    · simpa [hs_get, e] using q
    · simpa [hs_get, e] using this
theorem RC.at {h g : ph_H} (R : RC h g) {t : Nat} {a : Int32} : RC (hs h 18 t a) (hs g 12 t (nrm (g 1 t) a)) := by
  obtain ⟨r1, r2, r3, r4, r5, r6, r7⟩ := R
  refine ⟨?_, ?_, ?_, ?_, ?_, ?_, ?_⟩
  · simpa [Rsl, hs_get] using r1
  · intro u hu
    have := r2 u hu
    by_cases e : u = t
    · simp [hs_get, e]
    · simpa [hs_get, e] using this
  · simpa [Rmd, hs_get] using r3
  · simpa [Rth, hs_get] using r4
  · simpa [Rin, kn, vi, hs_get] using r5
  · simpa [Rpr, hs_get] using r6
  · simpa [LV, hs_get] using r7
theorem RC.own {h g : ph_H} (R : RC h g) {x : Nat} {c r : Int32} (q : OW c r) : RC (hs h 23 x c) (hs g 17 x r) := by
  obtain ⟨r1, r2, r3, r4, r5, r6, r7⟩ := R
  refine ⟨?_, ?_, ?_, ⟨?_, ?_⟩, ?_, ?_, ?_⟩
  · simpa [Rsl, hs_get] using r1
  · simpa [Rat, hs_get] using r2
  · simpa [Rmd, hs_get] using r3
  · simpa [hs_get] using r4.1
  · intro y hy
    have := r4.2 y (by simpa [hs_get] using hy)
    by_cases e : y = x
    · subst e
      simpa [hs_get, q] using ⟨this.1, this.2.1, this.2.2.2⟩
    · simpa [hs_get, e] using this
  · simpa [Rin, kn, vi, hs_get] using r5
  · simpa [Rpr, hs_get] using r6
  · simpa [LV, hs_get] using r7
theorem RC.row {h g : ph_H} (R : RC h g) {j : Nat} {v : Int32} : RC (hs h 24 j v) (hs g 19 j v) := by
  obtain ⟨r1, r2, r3, r4, r5, r6, r7⟩ := R
  refine ⟨?_, ?_, ?_, ⟨?_, ?_⟩, ?_, ?_, ?_⟩
  · simpa [Rsl, hs_get] using r1
  · simpa [Rat, hs_get] using r2
  · simpa [Rmd, hs_get] using r3
  · simpa [hs_get] using r4.1
  · intro y hy
    have := r4.2 y (by simpa [hs_get] using hy)
    refine ⟨by simpa [hs_get] using this.1, by simpa [hs_get] using this.2.1, by simpa [hs_get] using this.2.2.1, fun i hi => ?_⟩
    have w := this.2.2.2 i (by simpa [hs_get] using hi)
    simp only [hs_get]
    by_cases e : 16 * y + i = j
    · simp [e]
    · simpa [e] using w
  · simpa [Rin, kn, vi, hs_get] using r5
  · simpa [Rpr, hs_get] using r6
  · simpa [LV, hs_get] using r7
/-- places of rows that no THING has yet -/
theorem RC.rowc {z : zT} {h h' g : ph_H} (R : RC h g) (I : IM z g) (hf : ∀ p i, ¬ p = 24 → h' p i = h p i) (hr : ∀ i : Nat, (i : Int) < 16 * (g 0 18).toInt → h' 24 i = h 24 i) : RC h' g := by
  obtain ⟨r1, r2, r3, r4, r5, r6, r7⟩ := R
  refine ⟨?_, ?_, ?_, ⟨?_, ?_⟩, ?_, ?_, r7⟩
  · simpa [Rsl, hf] using r1
  · simpa [Rat, hf] using r2
  · simpa [Rmd, hf] using r3
  · simpa [hf] using r4.1
  · intro y hy
    have := r4.2 y hy
    refine ⟨by simpa [hf] using this.1, by simpa [hf] using this.2.1, by simpa [hf] using this.2.2.1, fun i hi => ?_⟩
    have w := this.2.2.2 i hi
    have s16 : iv 0 16 (g 18 y) := IMv I 18 y
    unfold iv at s16
    rw [hr _ (by omega)]
    exact w
  · simpa [Rin, hf] using r5
  · simpa [Rpr, hf] using r6
theorem RC.rowr {z : zT} {h g g' : ph_H} (R : RC h g) (I : IM z g) (hf : ∀ p i, ¬ p = 19 → g' p i = g p i) (hr : ∀ i : Nat, (i : Int) < 16 * (g 0 18).toInt → g' 19 i = g 19 i) : RC h g' := by
  obtain ⟨r1, r2, r3, r4, r5, r6, r7⟩ := R
  refine ⟨?_, ?_, ?_, ⟨?_, ?_⟩, ?_, ?_, ?_⟩
  · simpa [Rsl, hf] using r1
  · simpa [Rat, hf] using r2
  · simpa [Rmd, hf] using r3
  · simpa [hf] using r4.1
  · intro y hy
    have hy : (y : Int) < (g 0 18).toInt := by simpa [hf] using hy
    have := r4.2 y hy
    refine ⟨by simpa [hf] using this.1, by simpa [hf] using this.2.1, by simpa [hf] using this.2.2.1, fun i hi => ?_⟩
    have hi : (i : Int) < (g 18 y).toInt := by simpa [hf] using hi
    have w := this.2.2.2 i hi
    have s16 : iv 0 16 (g 18 y) := IMv I 18 y
    unfold iv at s16
    rw [hr _ (by omega)]
    exact w
  · simpa [Rin, kn, vi, hf] using r5
  · simpa [Rpr, hf] using r6
  · simpa [LV, hf] using r7
theorem RC.md {h g h' g' : ph_H} {t : Nat} (R : RC h g) (hc : ∀ k i, ¬ (k = 19 ∧ i = t) → ¬ (k = 20 ∧ i = t) → h' k i = h k i) (hr : ∀ k i, ¬ (k = 13 ∧ i = t) → ¬ (k = 14 ∧ i = t) → ¬ (k = 15 ∧ i = t) → g' k i = g k i) (m : t < 4 → MD (h' 19 t) (h' 20 t) (g' 13 t) (g' 14 t) (g' 15 t)) (l : t < 4 → (g' 14 t).toInt < (g 0 18).toInt ∧ (g' 15 t).toInt < (g 0 18).toInt) : RC h' g' := by
  obtain ⟨r1, r2, r3, r4, r5, r6, r7⟩ := R
  have c : ∀ k i, ¬ k = 19 → ¬ k = 20 → h' k i = h k i := fun k i a b => hc k i (fun w => a w.1) (fun w => b w.1)
  have r : ∀ k i, ¬ k = 13 → ¬ k = 14 → ¬ k = 15 → g' k i = g k i := fun k i a b c => hr k i (fun w => a w.1) (fun w => b w.1) (fun w => c w.1)
  have d : ∀ i, i ≠ t → h' 19 i = h 19 i ∧ h' 20 i = h 20 i := fun i e => ⟨hc _ _ (fun w => e w.2) (fun w => e w.2), hc _ _ (fun w => e w.2) (fun w => e w.2)⟩
  have s : ∀ k i, i ≠ t → g' k i = g k i := fun k i e => hr _ _ (fun w => e w.2) (fun w => e w.2) (fun w => e w.2)
  refine ⟨?_, ?_, ?_, ?_, ?_, ?_, ?_⟩
  · simpa [Rsl, c, r] using r1
  · simpa [Rat, c, r] using r2
  · intro u hu
    by_cases e : u = t
    · rw [e]
      exact m (e ▸ hu)
    · rw [(d u e).1, (d u e).2, s _ u e, s _ u e, s _ u e]
      exact r3 u hu
  · simpa [Rth, c, r] using r4
  · simpa [Rin, kn, vi, c, r] using r5
  · simpa [Rpr, c, r] using r6
  · refine ⟨by simpa [r] using r7.1, fun u hu => ?_, by simpa [r] using r7.2.2⟩
    rw [r 0 18 (by decide) (by decide) (by decide)]
    by_cases e : u = t
    · rw [e]
      exact l (e ▸ hu)
    · rw [s _ u e, s _ u e]
      exact r7.2.1 u hu
theorem MD0 {m q st as wk : Int32} (d : MD m q st as wk) (e : m = 0) : st = 0 ∧ as = -1 ∧ wk = -1 := by
  rcases d with ⟨a, b⟩ | ⟨a, b⟩ | ⟨a, b⟩ | ⟨a, b⟩
  · exact b
  all_goals exact absurd (e.symm.trans a) (by decide)
theorem MD1 {m q st as wk : Int32} (d : MD m q st as wk) (e : m = 1) : st = 1 ∧ as = -1 ∧ wk = -1 := by
  rcases d with ⟨a, b⟩ | ⟨a, b⟩ | ⟨a, b⟩ | ⟨a, b⟩
  · exact absurd (e.symm.trans a) (by decide)
  · exact b
  all_goals exact absurd (e.symm.trans a) (by decide)
theorem MD2 {m q st as wk : Int32} (d : MD m q st as wk) (e : m = 2) : st = 1 ∧ as = q ∧ iv 0 11 q ∧ wk = -1 := by
  rcases d with ⟨a, b⟩ | ⟨a, b⟩ | ⟨a, b⟩ | ⟨a, b⟩
  · exact absurd (e.symm.trans a) (by decide)
  · exact absurd (e.symm.trans a) (by decide)
  · exact b
  · exact absurd (e.symm.trans a) (by decide)
theorem MD3 {m q st as wk : Int32} (d : MD m q st as wk) (e : m = 3) : st = 1 ∧ as = -1 ∧ wk = q ∧ iv 0 11 q := by
  rcases d with ⟨a, b⟩ | ⟨a, b⟩ | ⟨a, b⟩ | ⟨a, b⟩
  · exact absurd (e.symm.trans a) (by decide)
  · exact absurd (e.symm.trans a) (by decide)
  · exact absurd (e.symm.trans a) (by decide)
  · exact b
theorem hs_self (h : ph_H) (k i : Nat) (v : Int32) : hs h k i v k i = v := by rw [hs_get, if_pos rfl, if_pos rfl]
theorem th_nn {z : zT} {g : ph_H} (I : IM z g) : 0 ≤ (g 0 18).toInt ∧ (g 0 18).toInt ≤ 12 := IMv I 0 18
theorem RC.start {z : zT} {h g : ph_H} (R : RC h g) (I : IM z g) {t : Nat} (ht : t < 4) (e : h 19 t = 0) : RC (hs h 19 t 1) (hs g 13 t 1) := by
  have m := MD0 (R.2.2.1 t ht) e
  refine R.md (t := t) (fun k i a b => hs_o a) (fun k i a b c => hs_o a) (fun _ => ?_) (fun _ => ?_)
  · rw [hs_self, hs_self, hs_o (by simp), hs_o (by simp), hs_o (by simp)]
    exact Or.inr (Or.inl ⟨rfl, rfl, m.2⟩)
  · rw [hs_o (by simp), hs_o (by simp)]
    exact R.2.2.2.2.2.2.2.1 t ht
theorem RC.rise {z : zT} {h g : ph_H} (R : RC h g) (I : IM z g) {t : Nat} (ht : t < 4) (e : h 19 t = 3) : RC (hs h 19 t 1) (hs g 15 t (-1)) := by
  have m := MD3 (R.2.2.1 t ht) e
  refine R.md (t := t) (fun k i a b => hs_o a) (fun k i a b c => hs_o c) (fun _ => ?_) (fun _ => ?_)
  · rw [hs_self, hs_self, hs_o (by simp), hs_o (by simp), hs_o (by simp)]
    exact Or.inr (Or.inl ⟨rfl, m.1, m.2.1, rfl⟩)
  · rw [hs_self, hs_o (by simp)]
    have n1 : (-1 : Int32).toInt = -1 := by decide
    have := th_nn I
    exact ⟨(R.2.2.2.2.2.2.2.1 t ht).1, by omega⟩
theorem RC.lie {z : zT} {h g : ph_H} (R : RC h g) (I : IM z g) {t : Nat} {q : Int32} (ht : t < 4) (e : h 19 t = 1) (hq : iv 0 11 q) (hl : q.toInt < (g 0 18).toInt) : RC (hs (hs h 19 t 2) 20 t q) (hs g 14 t q) := by
  have m := MD1 (R.2.2.1 t ht) e
  refine R.md (t := t) (fun k i a b => by rw [hs_o b, hs_o a]) (fun k i a b c => hs_o b) (fun _ => ?_) (fun _ => ?_)
  · rw [hs_self, hs_self, hs_o (by simp), hs_self, hs_o (by simp), hs_o (by simp)]
    exact Or.inr (Or.inr (Or.inl ⟨rfl, m.1, rfl, hq, m.2.2⟩))
  · rw [hs_self, hs_o (by simp)]
    exact ⟨hl, (R.2.2.2.2.2.2.2.1 t ht).2⟩
theorem RC.wake {z : zT} {h g : ph_H} (R : RC h g) (I : IM z g) {t : Nat} (ht : t < 4) (e : h 19 t = 2) : RC (hs h 19 t 3) (hs (hs g 15 t (g 14 t)) 14 t (-1)) := by
  have m := MD2 (R.2.2.1 t ht) e
  refine R.md (t := t) (fun k i a b => hs_o a) (fun k i a b c => by rw [hs_o b, hs_o c]) (fun _ => ?_) (fun _ => ?_)
  · rw [hs_self, hs_self, hs_o (by simp), hs_o (by simp), hs_o (by simp), hs_o (by simp), hs_self]
    exact Or.inr (Or.inr (Or.inr ⟨rfl, m.1, rfl, m.2.1, m.2.2.1⟩))
  · rw [hs_self, hs_o (by simp), hs_self]
    have n1 : (-1 : Int32).toInt = -1 := by decide
    have := th_nn I
    exact ⟨by omega, (R.2.2.2.2.2.2.2.1 t ht).1⟩
theorem RC.take {h g : ph_H} (R : RC h g) {v : Int32} (q : v.toInt ≤ (kn g).toInt) : RC (hs h 15 12 v) (hs g 0 23 v) := by
  obtain ⟨r1, r2, r3, r4, r5, r6, r7⟩ := R
  refine ⟨?_, ?_, ?_, ?_, ⟨?_, ?_, ?_, ?_⟩, ?_, ?_⟩
  · simpa [Rsl, hs_get] using r1
  · simpa [Rat, hs_get] using r2
  · simpa [Rmd, hs_get] using r3
  · simpa [Rth, hs_get] using r4
  · simp [hs_get]
  · simpa [kn, hs_get] using r5.2.1
  · simpa [kn, hs_get] using q
  · simpa [kn, vi, hs_get] using r5.2.2.2
  · simpa [Rpr, hs_get] using r6
  · simpa [LV, hs_get] using r7
/-- a new THING -/
theorem RC.new {z : zT} {h g : ph_H} (R : RC h g) (I : IM z g) {kd sz : Int32} (hl : (g 0 18).toInt < 12) (hr : ∀ i : Nat, (i : Int) < sz.toInt → h 24 (16 * (g 0 18).toNatClampNeg + i) = g 19 (16 * (g 0 18).toNatClampNeg + i)) :
    RC (hs (hs (hs (hs h 15 10 (g 0 18 + 1)) 21 (g 0 18).toNatClampNeg kd) 22 (g 0 18).toNatClampNeg sz) 23 (g 0 18).toNatClampNeg (-2)) (hs (hs (hs (hs g 16 (g 0 18).toNatClampNeg kd) 17 (g 0 18).toNatClampNeg (-1)) 18 (g 0 18).toNatClampNeg sz) 0 18 (g 0 18 + 1)) := by
  obtain ⟨r1, r2, r3, r4, r5, r6, r7⟩ := R
  have tn := th_nn I
  have k1 : (1 : Int32).toInt = 1 := by decide
  have e1 : (g 0 18 + 1).toInt = (g 0 18).toInt + 1 := by rw [ti_add (by omega) (by omega), k1]
  have e2 : ((g 0 18).toNatClampNeg : Int) = (g 0 18).toInt := by
    rw [← Int32.toNat_toInt]
    omega
  refine ⟨?_, ?_, ?_, ⟨?_, ?_⟩, ?_, ?_, ?_⟩
  · simpa [Rsl, hs_get] using r1
  · simpa [Rat, hs_get] using r2
  · simpa [Rmd, hs_get] using r3
  · simp [hs_get]
  · intro y hy
    have hy : (y : Int) < (g 0 18 + 1).toInt := by simpa [hs_get] using hy
    by_cases e : y = (g 0 18).toNatClampNeg
    · subst e
      simp only [hs_get]
      have ow : OW (-2) (-1) := Or.inl ⟨rfl, rfl⟩
      refine ⟨by simp, by simp, by simpa using ow, ?_⟩
      simpa using hr
    · have := r4.2 y (by omega)
      simpa [hs_get, e] using this
  · simpa [Rin, kn, vi, hs_get] using r5
  · simpa [Rpr, hs_get] using r6
  · refine ⟨fun i hi => ?_, fun t ht => ?_, by simpa [hs_get] using r7.2.2⟩
    · rcases r7.1 i hi with c | ⟨c1, c2, c3⟩
      · left
        simpa [hs_get] using c
      · right
        have e3 : ((g 11 i).toNatClampNeg : Int) = (g 11 i).toInt := by
          rw [← Int32.toNat_toInt]
          omega
        have e4 : ¬ (g 11 i).toNatClampNeg = (g 0 18).toNatClampNeg := by omega
        refine ⟨by simpa [hs_get] using c1, ?_, by simpa [hs_get, e4] using c3⟩
        have : (g 11 i).toInt < (g 0 18 + 1).toInt := by omega
        simpa [hs_get] using this
    · have := r7.2.1 t ht
      have w : (g 14 t).toInt < (g 0 18 + 1).toInt ∧ (g 15 t).toInt < (g 0 18 + 1).toInt := by omega
      simpa [hs_get] using w
