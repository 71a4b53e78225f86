section MG_48_x20A2o1
/-! THE RELATION of a machine of the class and the reference's machine -/
def Rslo1 (h g : ph_H) : Prop := ∀ i, i < 28 → h 26 i = g 10 i ∧ h 27 i = g 11 i
def Rato1 (h g : ph_H) : Prop := ∀ t, t < 4 → nrm (g 1 t) (h 28 t) = g 12 t
def Rmdo1 (h g : ph_H) : Prop := ∀ t, t < 4 → MD (h 29 t) (h 30 t) (g 13 t) (g 14 t) (g 15 t)
def Rtho1 (h g : ph_H) : Prop := h 25 10 = g 0 18 ∧ ∀ x : Nat, (x : Int) < (g 0 18).toInt → h 31 x = g 16 x ∧ h 32 x = g 18 x ∧ OW (h 33 x) (g 17 x) ∧ ∀ i : Nat, (i : Int) < (g 18 x).toInt → h 34 (16 * x + i) = g 19 (16 * x + i)
def Rino1 (h g : ph_H) : Prop := h 25 12 = g 0 23 ∧ h 25 11 = kn g ∧ (g 0 23).toInt ≤ (kn g).toInt ∧ ∀ k : Nat, (k : Int) < (kn g).toInt → h 5 k = vi g k
def Rpro1 (h g : ph_H) : Prop := (∀ t, t < 4 → h 2 t = g 1 t) ∧ ∀ i, i < 96 → h 3 (4 * i) = g 2 i ∧ h 3 (4 * i + 1) = g 3 i ∧ h 3 (4 * i + 2) = g 4 i ∧ h 3 (4 * i + 3) = g 5 i
def RCo1 (h g : ph_H) : Prop := Rslo1 h g ∧ Rato1 h g ∧ Rmdo1 h g ∧ Rtho1 h g ∧ Rino1 h g ∧ Rpro1 h g ∧ LV g
theorem t_lto1 {t : Int32} (ht : iv 0 3 t) : t.toNatClampNeg < 4 := by
  have := iv_nat ht rfl
  unfold iv at ht
  omega
theorem many_ivo1 {z : zT} {g : ph_H} (I : IM z g) (t : Nat) : iv 0 24 (g 1 t) := IMv I 1 t
theorem ended_eqo1 {z : zT} {h g : ph_H} {t : Int32} (R : RCo1 h g) (I : IM z g) (ht : iv 0 3 t) : FX3_hasEnded_oc1 t h = if g 12 t.toNatClampNeg = 24 then 1 else 0 := by
  obtain ⟨r1, r2, r3, r4, r5, r6, r7⟩ := R
  have e := r2 _ (t_lto1 ht)
  have f := r6.1 _ (t_lto1 ht)
  have hm := many_ivo1 I t.toNatClampNeg
  have k24 : (24 : Int32).toInt = 24 := by decide
  unfold FX3_hasEnded_oc1 FX5_has_n
  rw [f, ← e]
  unfold nrm iv at *
  by_cases c : h 28 t.toNatClampNeg < 0
  · simp only [if_pos c, if_true]
  · rw [if_neg c, if_neg c]
    by_cases d : h 28 t.toNatClampNeg < g 1 t.toNatClampNeg
    · rw [if_pos d]
      rw [Int32.lt_iff_toInt_lt] at d
      have d1 : ¬ 24 ≤ h 28 t.toNatClampNeg := by rw [Int32.le_iff_toInt_le, k24]; omega
      have d2 : ¬ g 1 t.toNatClampNeg ≤ h 28 t.toNatClampNeg := by rw [Int32.le_iff_toInt_le]; omega
      have d3 : ¬ h 28 t.toNatClampNeg = 24 := fun w => d1 (by rw [w]; decide)
      rw [if_neg d1, if_neg d2, if_neg (by decide), if_neg d3]
    · rw [if_neg d, if_pos rfl]
      have d4 := nlt d
      by_cases d1 : 24 ≤ h 28 t.toNatClampNeg
      · rw [if_pos d1, if_pos rfl]
      · rw [if_neg d1, if_pos d4, if_pos rfl]
/-- where a THREAD that hasn't ended stands -/
theorem standso1 {z : zT} {h g : ph_H} {t : Int32} (R : RCo1 h g) (I : IM z g) (ht : iv 0 3 t) (e : ¬ g 12 t.toNatClampNeg = 24) : h 28 t.toNatClampNeg = g 12 t.toNatClampNeg ∧ iv 0 23 (h 28 t.toNatClampNeg) := by
  obtain ⟨r1, r2, r3, r4, r5, r6, r7⟩ := R
  have f := r2 _ (t_lto1 ht)
  have k := nrm_id (many_ivo1 I t.toNatClampNeg) (a := h 28 t.toNatClampNeg) (by rw [f]; exact e)
  rw [f] at k
  exact ⟨k.1.symm, k.2.1, by omega⟩
theorem partso1 {z : zT} {h g : ph_H} {t : Int32} (R : RCo1 h g) (I : IM z g) (ht : iv 0 3 t) (e : ¬ g 12 t.toNatClampNeg = 24) :
    h 3 (FX5_firstPart_n t (h 28 t.toNatClampNeg) h).toNatClampNeg = g 2 ((24 * t) + g 12 t.toNatClampNeg).toNatClampNeg ∧
    h 3 ((FX5_firstPart_n t (h 28 t.toNatClampNeg) h) + 1).toNatClampNeg = g 3 ((24 * t) + g 12 t.toNatClampNeg).toNatClampNeg ∧
    h 3 ((FX5_firstPart_n t (h 28 t.toNatClampNeg) h) + 2).toNatClampNeg = g 4 ((24 * t) + g 12 t.toNatClampNeg).toNatClampNeg ∧
    h 3 ((FX5_firstPart_n t (h 28 t.toNatClampNeg) h) + 3).toNatClampNeg = g 5 ((24 * t) + g 12 t.toNatClampNeg).toNatClampNeg := by
  obtain ⟨e1, e2⟩ := standso1 R I ht e
  obtain ⟨r1, r2, r3, r4, r5, r6, r7⟩ := R
  unfold FX5_firstPart_n
  rw [← e1]
  have p := r6.2 _ (part_ix (j := 0) (v := 0) ht e2 (by decide) (by decide)).2
  rw [part_ix0 ht e2, (part_ix (j := 1) (v := 1) ht e2 (by decide) (by decide)).1, (part_ix (j := 2) (v := 2) ht e2 (by decide) (by decide)).1, (part_ix (j := 3) (v := 3) ht e2 (by decide) (by decide)).1]
  exact p
theorem refso1 {h g : ph_H} {k : Nat} (R : RCo1 h g) (hk : k < 28) (e : ¬ g 10 k = 0) : ((g 11 k).toNatClampNeg : Int) = (g 11 k).toInt ∧ ((g 11 k).toNatClampNeg : Int) < (g 0 18).toInt ∧ g 16 (g 11 k).toNatClampNeg = g 10 k := by
  rcases R.2.2.2.2.2.2.1 k hk with c | ⟨c1, c2, c3⟩
  · exact absurd c e
  · have : ((g 11 k).toNatClampNeg : Int) = (g 11 k).toInt := by
      rw [← Int32.toNat_toInt]
      omega
    exact ⟨this, by omega, c3⟩
theorem own_ato1 {h g : ph_H} {k : Nat} (R : RCo1 h g) (hk : k < 28) (e : ¬ g 10 k = 0) : OW (h 33 (g 11 k).toNatClampNeg) (g 17 (g 11 k).toNatClampNeg) := by
  obtain ⟨a, b, c⟩ := refso1 R hk e
  exact (R.2.2.2.1.2 _ b).2.2.1
theorem sl_lto1 {t a : Int32} {g : ph_H} (ht : iv 0 3 t) : (FX12_local t a g).toNatClampNeg < 28 := by
  have f := slot_iv (a := a) (g := g) ht
  have := iv_nat f rfl
  unfold iv at f
  omega
theorem lock_eqo1 {h g : ph_H} {k : Int32} (R : RCo1 h g) (hk : k.toNatClampNeg < 28) : FX3_lockIn_oc1 k h = if FX12_isLock k g = 0 then -1 else g 11 k.toNatClampNeg := by
  obtain ⟨e1, e2⟩ := R.1 _ hk
  unfold FX3_lockIn_oc1 FX3_lockIn_oc1_20 FX12_isLock FX12_isLock_20
  rw [e1, e2]
  by_cases c : g 10 k.toNatClampNeg = 2
  · rw [if_pos c, if_pos c, if_neg (by decide)]
  · rw [if_neg c, if_neg c]
    by_cases d : g 10 k.toNatClampNeg = 3
    · rw [if_pos d, if_pos d, if_neg (by decide)]
    · rw [if_neg d, if_neg d, if_pos rfl]
theorem isLock_to1 {g : ph_H} {k : Int32} (e : ¬ FX12_isLock k g = 0) : ¬ g 10 k.toNatClampNeg = 0 := by
  intro c
  apply e
  unfold FX12_isLock
  rw [c]
  rfl
theorem canGo_eqo1 {z : zT} {h g : ph_H} {t : Int32} (R : RCo1 h g) (I : IM z g) (ht : iv 0 3 t) : FX3_canGo_oc1 t h = FX12_canGo t g := by
  have en := ended_eqo1 R I ht
  have md := R.2.2.1 _ (t_lto1 ht)
  have k1 : (-1 : Int32) < 0 := by decide
  unfold FX3_canGo_oc1 FX12_canGo FX3_canGo_oc1_137 FX12_canGo_107 FX12_canGo_108 FX12_canGo_144
  rw [en]
  by_cases e : g 12 t.toNatClampNeg = 24
  · simp (decide := true) only [e, ↓reduceIte]
    repeat' split
    all_goals rfl
  · obtain ⟨p0, p1, p2, p3⟩ := partso1 R I ht e
    rcases md with ⟨m, st, as, wk⟩ | ⟨m, st, as, wk⟩ | ⟨m, st, as, q, wk⟩ | ⟨m, st, as, wk, q⟩
    · simp (decide := true) only [m, st, ↓reduceIte]
    · simp (decide := true) only [m, st, as, wk, e, k1, p0, p1, ↓reduceIte]
      by_cases o : g 2 ((24 * t) + g 12 t.toNatClampNeg).toNatClampNeg = 12
      · rw [slot_eq t _ g, lock_eqo1 R (sl_lto1 ht)]
        by_cases l : FX12_isLock (FX12_local t (g 3 ((24 * t) + g 12 t.toNatClampNeg).toNatClampNeg) g) g = 0
        · simp (decide := true) only [o, l, k1, ↓reduceIte]
        · have l0 := isLock_to1 l
          have lo := own_ato1 R (sl_lto1 ht) l0
          obtain ⟨a, b, c⟩ := refso1 R (sl_lto1 ht) l0
          have nn := nn_t (x := g 11 (FX12_local t (g 3 ((24 * t) + g 12 t.toNatClampNeg).toNatClampNeg) g).toNatClampNeg) (by omega)
          simp (decide := true) only [o, l, nn, ↓reduceIte]
          by_cases f : g 17 (g 11 (FX12_local t (g 3 ((24 * t) + g 12 t.toNatClampNeg).toNatClampNeg) g).toNatClampNeg).toNatClampNeg < 0
          · rw [if_pos f, if_pos ((OW_free lo).mpr f)]
          · rw [if_neg f, if_neg (fun w => f ((OW_free lo).mp w))]
            by_cases u : g 17 (g 11 (FX12_local t (g 3 ((24 * t) + g 12 t.toNatClampNeg).toNatClampNeg) g).toNatClampNeg).toNatClampNeg = t
            · rw [if_pos u, if_pos ((OW_own lo ht).mpr u)]
            · rw [if_neg u, if_neg (fun w => u ((OW_own lo ht).mp w))]
      · simp (decide := true) only [o, ↓reduceIte]
    · unfold iv at q
      have nn := nn_t q.1
      simp (decide := true) only [m, st, as, nn, e, ↓reduceIte]
    · have lv := (R.2.2.2.2.2.2.2.1 _ (t_lto1 ht)).2
      rw [wk] at lv
      have qn := iv_nat q rfl
      have ow := (R.2.2.2.1.2 (h 30 t.toNatClampNeg).toNatClampNeg (by omega)).2.2.1
      unfold iv at q
      have nn := nn_t q.1
      simp (decide := true) only [m, st, as, wk, k1, nn, e, ↓reduceIte]
      by_cases f : g 17 (h 30 t.toNatClampNeg).toNatClampNeg < 0
      · rw [if_pos ((OW_free ow).mpr f), if_neg (fun w => nn_of w f)]
      · rw [if_neg (fun w => f ((OW_free ow).mp w)), if_pos (nlt f)]
end MG_48_x20A2o1
section MG_48_x21A3o1
/-! primitives: what one write on each side does to the relation -/
theorem RCo1.cso1 {h g : ph_H} (R : RCo1 h g) {i : Nat} {v : Int32} (q : 12 < i) : RCo1 (hs h 25 i v) g := by
  obtain ⟨r1, r2, r3, r4, r5, r6, r7⟩ := R
  have q0 : ¬ 10 = i := by omega
  have q1 : ¬ 11 = i := by omega
  have q2 : ¬ 12 = i := by omega
  refine ⟨?_, ?_, ?_, ?_, ?_, ?_, r7⟩
  · simpa [Rslo1, hs_get] using r1
  · simpa [Rato1, hs_get] using r2
  · simpa [Rmdo1, hs_get] using r3
  · simpa [Rtho1, hs_get, q0] using r4
  · simpa [Rino1, hs_get, q1, q2] using r5
  · simpa [Rpro1, hs_get] using r6
theorem RCo1.rso1 {h g : ph_H} (R : RCo1 h g) {i : Nat} {v : Int32} (q : rsf i = true) : RCo1 h (hs g 0 i v) := by
  obtain ⟨r1, r2, r3, r4, r5, r6, r7⟩ := R
  obtain ⟨q0, q1, q2, q3, q4⟩ := rsf_ne q
  refine ⟨?_, ?_, ?_, ?_, ?_, ?_, ?_⟩
  · simpa [Rslo1, hs_get] using r1
  · simpa [Rato1, hs_get] using r2
  · simpa [Rmdo1, hs_get] using r3
  · simpa [Rtho1, hs_get, q1] using r4
  · simpa [Rino1, kn, vi, hs_get, q0, q2, q3, q4] using r5
  · simpa [Rpro1, hs_get] using r6
  · simpa [LV, hs_get, q1] using r7
theorem RCo1.sloto1 {h g : ph_H} (R : RCo1 h g) {k : Nat} {kd v : Int32} (q : kd = 0 ∨ (0 ≤ v.toInt ∧ v.toInt < (g 0 18).toInt ∧ g 16 v.toNatClampNeg = kd)) : RCo1 (hs (hs h 26 k kd) 27 k v) (hs (hs g 10 k kd) 11 k v) := by
  obtain ⟨r1, r2, r3, r4, r5, r6, r7⟩ := R
  refine ⟨?_, ?_, ?_, ?_, ?_, ?_, ?_⟩
  · intro i hi
    have := r1 i hi
    simp only [hs_get]
    by_cases e : i = k
    · simp [e]
    · simpa [e] using this
  · simpa [Rato1, hs_get] using r2
  · simpa [Rmdo1, hs_get] using r3
  · simpa [Rtho1, hs_get] using r4
  · simpa [Rino1, kn, vi, hs_get] using r5
  · simpa [Rpro1, hs_get] using r6
  · refine ⟨fun i hi => ?_, by simpa [hs_get] using r7.2.1, by simpa [hs_get] using r7.2.2⟩
    have := r7.1 i hi
    by_cases e : i = k
    · simpa [hs_get, e] using q
    · simpa [hs_get, e] using this
theorem RCo1.ato1 {h g : ph_H} (R : RCo1 h g) {t : Nat} {a : Int32} : RCo1 (hs h 28 t a) (hs g 12 t (nrm (g 1 t) a)) := by
  obtain ⟨r1, r2, r3, r4, r5, r6, r7⟩ := R
  refine ⟨?_, ?_, ?_, ?_, ?_, ?_, ?_⟩
  · simpa [Rslo1, hs_get] using r1
  · intro u hu
    have := r2 u hu
    by_cases e : u = t
    · simp [hs_get, e]
    · simpa [hs_get, e] using this
  · simpa [Rmdo1, hs_get] using r3
  · simpa [Rtho1, hs_get] using r4
  · simpa [Rino1, kn, vi, hs_get] using r5
  · simpa [Rpro1, hs_get] using r6
  · simpa [LV, hs_get] using r7
theorem RCo1.owno1 {h g : ph_H} (R : RCo1 h g) {x : Nat} {c r : Int32} (q : OW c r) : RCo1 (hs h 33 x c) (hs g 17 x r) := by
  obtain ⟨r1, r2, r3, r4, r5, r6, r7⟩ := R
  refine ⟨?_, ?_, ?_, ⟨?_, ?_⟩, ?_, ?_, ?_⟩
  · simpa [Rslo1, hs_get] using r1
  · simpa [Rato1, hs_get] using r2
  · simpa [Rmdo1, hs_get] using r3
  · simpa [hs_get] using r4.1
  · intro y hy
    have := r4.2 y (by simpa [hs_get] using hy)
    by_cases e : y = x
    · subst e
      simpa [hs_get, q] using ⟨this.1, this.2.1, this.2.2.2⟩
    · simpa [hs_get, e] using this
  · simpa [Rino1, kn, vi, hs_get] using r5
  · simpa [Rpro1, hs_get] using r6
  · simpa [LV, hs_get] using r7
theorem RCo1.rowo1 {h g : ph_H} (R : RCo1 h g) {j : Nat} {v : Int32} : RCo1 (hs h 34 j v) (hs g 19 j v) := by
  obtain ⟨r1, r2, r3, r4, r5, r6, r7⟩ := R
  refine ⟨?_, ?_, ?_, ⟨?_, ?_⟩, ?_, ?_, ?_⟩
  · simpa [Rslo1, hs_get] using r1
  · simpa [Rato1, hs_get] using r2
  · simpa [Rmdo1, hs_get] using r3
  · simpa [hs_get] using r4.1
  · intro y hy
    have := r4.2 y (by simpa [hs_get] using hy)
    refine ⟨by simpa [hs_get] using this.1, by simpa [hs_get] using this.2.1, by simpa [hs_get] using this.2.2.1, fun i hi => ?_⟩
    have w := this.2.2.2 i (by simpa [hs_get] using hi)
    simp only [hs_get]
    by_cases e : 16 * y + i = j
    · simp [e]
    · simpa [e] using w
  · simpa [Rino1, kn, vi, hs_get] using r5
  · simpa [Rpro1, hs_get] using r6
  · simpa [LV, hs_get] using r7
/-- places of rows that no THING has yet -/
theorem RCo1.rowco1 {z : zT} {h h' g : ph_H} (R : RCo1 h g) (I : IM z g) (hf : ∀ p i, ¬ p = 34 → h' p i = h p i) (hr : ∀ i : Nat, (i : Int) < 16 * (g 0 18).toInt → h' 34 i = h 34 i) : RCo1 h' g := by
  obtain ⟨r1, r2, r3, r4, r5, r6, r7⟩ := R
  refine ⟨?_, ?_, ?_, ⟨?_, ?_⟩, ?_, ?_, r7⟩
  · simpa [Rslo1, hf] using r1
  · simpa [Rato1, hf] using r2
  · simpa [Rmdo1, hf] using r3
  · simpa [hf] using r4.1
  · intro y hy
    have := r4.2 y hy
    refine ⟨by simpa [hf] using this.1, by simpa [hf] using this.2.1, by simpa [hf] using this.2.2.1, fun i hi => ?_⟩
    have w := this.2.2.2 i hi
    have s16 : iv 0 16 (g 18 y) := IMv I 18 y
    unfold iv at s16
    rw [hr _ (by omega)]
    exact w
  · simpa [Rino1, hf] using r5
  · simpa [Rpro1, hf] using r6
theorem RCo1.rowro1 {z : zT} {h g g' : ph_H} (R : RCo1 h g) (I : IM z g) (hf : ∀ p i, ¬ p = 19 → g' p i = g p i) (hr : ∀ i : Nat, (i : Int) < 16 * (g 0 18).toInt → g' 19 i = g 19 i) : RCo1 h g' := by
  obtain ⟨r1, r2, r3, r4, r5, r6, r7⟩ := R
  refine ⟨?_, ?_, ?_, ⟨?_, ?_⟩, ?_, ?_, ?_⟩
  · simpa [Rslo1, hf] using r1
  · simpa [Rato1, hf] using r2
  · simpa [Rmdo1, hf] using r3
  · simpa [hf] using r4.1
  · intro y hy
    have hy : (y : Int) < (g 0 18).toInt := by simpa [hf] using hy
    have := r4.2 y hy
    refine ⟨by simpa [hf] using this.1, by simpa [hf] using this.2.1, by simpa [hf] using this.2.2.1, fun i hi => ?_⟩
    have hi : (i : Int) < (g 18 y).toInt := by simpa [hf] using hi
    have w := this.2.2.2 i hi
    have s16 : iv 0 16 (g 18 y) := IMv I 18 y
    unfold iv at s16
    rw [hr _ (by omega)]
    exact w
  · simpa [Rino1, kn, vi, hf] using r5
  · simpa [Rpro1, hf] using r6
  · simpa [LV, hf] using r7
theorem RCo1.mdo1 {h g h' g' : ph_H} {t : Nat} (R : RCo1 h g) (hc : ∀ k i, ¬ (k = 29 ∧ i = t) → ¬ (k = 30 ∧ i = t) → h' k i = h k i) (hr : ∀ k i, ¬ (k = 13 ∧ i = t) → ¬ (k = 14 ∧ i = t) → ¬ (k = 15 ∧ i = t) → g' k i = g k i) (m : t < 4 → MD (h' 29 t) (h' 30 t) (g' 13 t) (g' 14 t) (g' 15 t)) (l : t < 4 → (g' 14 t).toInt < (g 0 18).toInt ∧ (g' 15 t).toInt < (g 0 18).toInt) : RCo1 h' g' := by
  obtain ⟨r1, r2, r3, r4, r5, r6, r7⟩ := R
  have c : ∀ k i, ¬ k = 29 → ¬ k = 30 → h' k i = h k i := fun k i a b => hc k i (fun w => a w.1) (fun w => b w.1)
  have r : ∀ k i, ¬ k = 13 → ¬ k = 14 → ¬ k = 15 → g' k i = g k i := fun k i a b c => hr k i (fun w => a w.1) (fun w => b w.1) (fun w => c w.1)
  have d : ∀ i, i ≠ t → h' 29 i = h 29 i ∧ h' 30 i = h 30 i := fun i e => ⟨hc _ _ (fun w => e w.2) (fun w => e w.2), hc _ _ (fun w => e w.2) (fun w => e w.2)⟩
  have s : ∀ k i, i ≠ t → g' k i = g k i := fun k i e => hr _ _ (fun w => e w.2) (fun w => e w.2) (fun w => e w.2)
  refine ⟨?_, ?_, ?_, ?_, ?_, ?_, ?_⟩
  · simpa [Rslo1, c, r] using r1
  · simpa [Rato1, c, r] using r2
  · intro u hu
    by_cases e : u = t
    · rw [e]
      exact m (e ▸ hu)
    · rw [(d u e).1, (d u e).2, s _ u e, s _ u e, s _ u e]
      exact r3 u hu
  · simpa [Rtho1, c, r] using r4
  · simpa [Rino1, kn, vi, c, r] using r5
  · simpa [Rpro1, c, r] using r6
  · refine ⟨by simpa [r] using r7.1, fun u hu => ?_, by simpa [r] using r7.2.2⟩
    rw [r 0 18 (by decide) (by decide) (by decide)]
    by_cases e : u = t
    · rw [e]
      exact l (e ▸ hu)
    · rw [s _ u e, s _ u e]
      exact r7.2.1 u hu
theorem RCo1.starto1 {z : zT} {h g : ph_H} (R : RCo1 h g) (I : IM z g) {t : Nat} (ht : t < 4) (e : h 29 t = 0) : RCo1 (hs h 29 t 1) (hs g 13 t 1) := by
  have m := MD0 (R.2.2.1 t ht) e
  refine R.mdo1 (t := t) (fun k i a b => hs_o a) (fun k i a b c => hs_o a) (fun _ => ?_) (fun _ => ?_)
  · rw [hs_self, hs_self, hs_o (by simp), hs_o (by simp), hs_o (by simp)]
    exact Or.inr (Or.inl ⟨rfl, rfl, m.2⟩)
  · rw [hs_o (by simp), hs_o (by simp)]
    exact R.2.2.2.2.2.2.2.1 t ht
theorem RCo1.riseo1 {z : zT} {h g : ph_H} (R : RCo1 h g) (I : IM z g) {t : Nat} (ht : t < 4) (e : h 29 t = 3) : RCo1 (hs h 29 t 1) (hs g 15 t (-1)) := by
  have m := MD3 (R.2.2.1 t ht) e
  refine R.mdo1 (t := t) (fun k i a b => hs_o a) (fun k i a b c => hs_o c) (fun _ => ?_) (fun _ => ?_)
  · rw [hs_self, hs_self, hs_o (by simp), hs_o (by simp), hs_o (by simp)]
    exact Or.inr (Or.inl ⟨rfl, m.1, m.2.1, rfl⟩)
  · rw [hs_self, hs_o (by simp)]
    have n1 : (-1 : Int32).toInt = -1 := by decide
    have := th_nn I
    exact ⟨(R.2.2.2.2.2.2.2.1 t ht).1, by omega⟩
theorem RCo1.lieo1 {z : zT} {h g : ph_H} (R : RCo1 h g) (I : IM z g) {t : Nat} {q : Int32} (ht : t < 4) (e : h 29 t = 1) (hq : iv 0 11 q) (hl : q.toInt < (g 0 18).toInt) : RCo1 (hs (hs h 29 t 2) 30 t q) (hs g 14 t q) := by
  have m := MD1 (R.2.2.1 t ht) e
  refine R.mdo1 (t := t) (fun k i a b => by rw [hs_o b, hs_o a]) (fun k i a b c => hs_o b) (fun _ => ?_) (fun _ => ?_)
  · rw [hs_self, hs_self, hs_o (by simp), hs_self, hs_o (by simp), hs_o (by simp)]
    exact Or.inr (Or.inr (Or.inl ⟨rfl, m.1, rfl, hq, m.2.2⟩))
  · rw [hs_self, hs_o (by simp)]
    exact ⟨hl, (R.2.2.2.2.2.2.2.1 t ht).2⟩
theorem RCo1.wakeo1 {z : zT} {h g : ph_H} (R : RCo1 h g) (I : IM z g) {t : Nat} (ht : t < 4) (e : h 29 t = 2) : RCo1 (hs h 29 t 3) (hs (hs g 15 t (g 14 t)) 14 t (-1)) := by
  have m := MD2 (R.2.2.1 t ht) e
  refine R.mdo1 (t := t) (fun k i a b => hs_o a) (fun k i a b c => by rw [hs_o b, hs_o c]) (fun _ => ?_) (fun _ => ?_)
  · rw [hs_self, hs_self, hs_o (by simp), hs_o (by simp), hs_o (by simp), hs_o (by simp), hs_self]
    exact Or.inr (Or.inr (Or.inr ⟨rfl, m.1, rfl, m.2.1, m.2.2.1⟩))
  · rw [hs_self, hs_o (by simp), hs_self]
    have n1 : (-1 : Int32).toInt = -1 := by decide
    have := th_nn I
    exact ⟨by omega, (R.2.2.2.2.2.2.2.1 t ht).1⟩
theorem RCo1.takeo1 {h g : ph_H} (R : RCo1 h g) {v : Int32} (q : v.toInt ≤ (kn g).toInt) : RCo1 (hs h 25 12 v) (hs g 0 23 v) := by
  obtain ⟨r1, r2, r3, r4, r5, r6, r7⟩ := R
  refine ⟨?_, ?_, ?_, ?_, ⟨?_, ?_, ?_, ?_⟩, ?_, ?_⟩
  · simpa [Rslo1, hs_get] using r1
  · simpa [Rato1, hs_get] using r2
  · simpa [Rmdo1, hs_get] using r3
  · simpa [Rtho1, hs_get] using r4
  · simp [hs_get]
  · simpa [kn, hs_get] using r5.2.1
  · simpa [kn, hs_get] using q
  · simpa [kn, vi, hs_get] using r5.2.2.2
  · simpa [Rpro1, hs_get] using r6
  · simpa [LV, hs_get] using r7
/-- a new THING -/
theorem RCo1.newo1 {z : zT} {h g : ph_H} (R : RCo1 h g) (I : IM z g) {kd sz : Int32} (hl : (g 0 18).toInt < 12) (hr : ∀ i : Nat, (i : Int) < sz.toInt → h 34 (16 * (g 0 18).toNatClampNeg + i) = g 19 (16 * (g 0 18).toNatClampNeg + i)) :
    RCo1 (hs (hs (hs (hs h 25 10 (g 0 18 + 1)) 31 (g 0 18).toNatClampNeg kd) 32 (g 0 18).toNatClampNeg sz) 33 (g 0 18).toNatClampNeg (-2)) (hs (hs (hs (hs g 16 (g 0 18).toNatClampNeg kd) 17 (g 0 18).toNatClampNeg (-1)) 18 (g 0 18).toNatClampNeg sz) 0 18 (g 0 18 + 1)) := by
  obtain ⟨r1, r2, r3, r4, r5, r6, r7⟩ := R
  have tn := th_nn I
  have k1 : (1 : Int32).toInt = 1 := by decide
  have e1 : (g 0 18 + 1).toInt = (g 0 18).toInt + 1 := by rw [ti_add (by omega) (by omega), k1]
  have e2 : ((g 0 18).toNatClampNeg : Int) = (g 0 18).toInt := by
    rw [← Int32.toNat_toInt]
    omega
  refine ⟨?_, ?_, ?_, ⟨?_, ?_⟩, ?_, ?_, ?_⟩
  · simpa [Rslo1, hs_get] using r1
  · simpa [Rato1, hs_get] using r2
  · simpa [Rmdo1, hs_get] using r3
  · simp [hs_get]
  · intro y hy
    have hy : (y : Int) < (g 0 18 + 1).toInt := by simpa [hs_get] using hy
    by_cases e : y = (g 0 18).toNatClampNeg
    · subst e
      simp only [hs_get]
      have ow : OW (-2) (-1) := Or.inl ⟨rfl, rfl⟩
      refine ⟨by simp, by simp, by simpa using ow, ?_⟩
      simpa using hr
    · have := r4.2 y (by omega)
      simpa [hs_get, e] using this
  · simpa [Rino1, kn, vi, hs_get] using r5
  · simpa [Rpro1, hs_get] using r6
  · refine ⟨fun i hi => ?_, fun t ht => ?_, by simpa [hs_get] using r7.2.2⟩
    · rcases r7.1 i hi with c | ⟨c1, c2, c3⟩
      · left
        simpa [hs_get] using c
      · right
        have e3 : ((g 11 i).toNatClampNeg : Int) = (g 11 i).toInt := by
          rw [← Int32.toNat_toInt]
          omega
        have e4 : ¬ (g 11 i).toNatClampNeg = (g 0 18).toNatClampNeg := by omega
        refine ⟨by simpa [hs_get] using c1, ?_, by simpa [hs_get, e4] using c3⟩
        have : (g 11 i).toInt < (g 0 18 + 1).toInt := by omega
        simpa [hs_get] using this
    · have := r7.2.1 t ht
      have w : (g 14 t).toInt < (g 0 18 + 1).toInt ∧ (g 15 t).toInt < (g 0 18 + 1).toInt := by omega
      simpa [hs_get] using w
end MG_48_x21A3o1
section MG_48_x22A5o1
/-! the class's own step: which INSTRUCTION does what -/
section
variable {h : ph_H} {t a b c : Int32}
theorem pf_0o1 (q0 : h 3 (FX5_firstPart_n t (h 28 t.toNatClampNeg) h).toNatClampNeg = 0) (q1 : h 3 ((FX5_firstPart_n t (h 28 t.toNatClampNeg) h) + 1).toNatClampNeg = a) (q2 : h 3 ((FX5_firstPart_n t (h 28 t.toNatClampNeg) h) + 2).toNatClampNeg = b) (q3 : h 3 ((FX5_firstPart_n t (h 28 t.toNatClampNeg) h) + 3).toNatClampNeg = c) : FX3_perform_oc1 t h = FX3_hold_oc1 (FX3_slotOf t a) 0 b h := by unfold FX3_perform_oc1; simp (decide := true) only [q0, q1, q2, q3, ↓reduceIte]
theorem pf_1o1 (q0 : h 3 (FX5_firstPart_n t (h 28 t.toNatClampNeg) h).toNatClampNeg = 1) (q1 : h 3 ((FX5_firstPart_n t (h 28 t.toNatClampNeg) h) + 1).toNatClampNeg = a) (q2 : h 3 ((FX5_firstPart_n t (h 28 t.toNatClampNeg) h) + 2).toNatClampNeg = b) (q3 : h 3 ((FX5_firstPart_n t (h 28 t.toNatClampNeg) h) + 3).toNatClampNeg = c) : FX3_perform_oc1 t h = FX3_getCell_oc1 (FX3_slotOf t a) (FJ9_floorMod_7cf53 b 12) h := by unfold FX3_perform_oc1; simp (decide := true) only [q0, q1, q2, q3, ↓reduceIte]
theorem pf_2o1 (q0 : h 3 (FX5_firstPart_n t (h 28 t.toNatClampNeg) h).toNatClampNeg = 2) (q1 : h 3 ((FX5_firstPart_n t (h 28 t.toNatClampNeg) h) + 1).toNatClampNeg = a) (q2 : h 3 ((FX5_firstPart_n t (h 28 t.toNatClampNeg) h) + 2).toNatClampNeg = b) (q3 : h 3 ((FX5_firstPart_n t (h 28 t.toNatClampNeg) h) + 3).toNatClampNeg = c) : FX3_perform_oc1 t h = FX3_putCell_oc1 (FJ9_floorMod_7cf53 a 12) (FX3_slotOf t b) h := by unfold FX3_perform_oc1; simp (decide := true) only [q0, q1, q2, q3, ↓reduceIte]
theorem pf_3o1 (q0 : h 3 (FX5_firstPart_n t (h 28 t.toNatClampNeg) h).toNatClampNeg = 3) (q1 : h 3 ((FX5_firstPart_n t (h 28 t.toNatClampNeg) h) + 1).toNatClampNeg = a) (q2 : h 3 ((FX5_firstPart_n t (h 28 t.toNatClampNeg) h) + 2).toNatClampNeg = b) (q3 : h 3 ((FX5_firstPart_n t (h 28 t.toNatClampNeg) h) + 3).toNatClampNeg = c) : FX3_perform_oc1 t h = FX3_reckon_oc1 3 (FX3_slotOf t a) (FX3_slotOf t b) h := by unfold FX3_perform_oc1; simp (decide := true) only [q0, q1, q2, q3, ↓reduceIte]
theorem pf_4o1 (q0 : h 3 (FX5_firstPart_n t (h 28 t.toNatClampNeg) h).toNatClampNeg = 4) (q1 : h 3 ((FX5_firstPart_n t (h 28 t.toNatClampNeg) h) + 1).toNatClampNeg = a) (q2 : h 3 ((FX5_firstPart_n t (h 28 t.toNatClampNeg) h) + 2).toNatClampNeg = b) (q3 : h 3 ((FX5_firstPart_n t (h 28 t.toNatClampNeg) h) + 3).toNatClampNeg = c) : FX3_perform_oc1 t h = FX3_reckon_oc1 4 (FX3_slotOf t a) (FX3_slotOf t b) h := by unfold FX3_perform_oc1; simp (decide := true) only [q0, q1, q2, q3, ↓reduceIte]
theorem pf_5o1 (q0 : h 3 (FX5_firstPart_n t (h 28 t.toNatClampNeg) h).toNatClampNeg = 5) (q1 : h 3 ((FX5_firstPart_n t (h 28 t.toNatClampNeg) h) + 1).toNatClampNeg = a) (q2 : h 3 ((FX5_firstPart_n t (h 28 t.toNatClampNeg) h) + 2).toNatClampNeg = b) (q3 : h 3 ((FX5_firstPart_n t (h 28 t.toNatClampNeg) h) + 3).toNatClampNeg = c) : FX3_perform_oc1 t h = FX3_reckon_oc1 5 (FX3_slotOf t a) (FX3_slotOf t b) h := by unfold FX3_perform_oc1; simp (decide := true) only [q0, q1, q2, q3, ↓reduceIte]
theorem pf_6o1 (q0 : h 3 (FX5_firstPart_n t (h 28 t.toNatClampNeg) h).toNatClampNeg = 6) (q1 : h 3 ((FX5_firstPart_n t (h 28 t.toNatClampNeg) h) + 1).toNatClampNeg = a) (q2 : h 3 ((FX5_firstPart_n t (h 28 t.toNatClampNeg) h) + 2).toNatClampNeg = b) (q3 : h 3 ((FX5_firstPart_n t (h 28 t.toNatClampNeg) h) + 3).toNatClampNeg = c) : FX3_perform_oc1 t h = FX3_goTo_oc1 a h := by unfold FX3_perform_oc1; simp (decide := true) only [q0, q1, q2, q3, ↓reduceIte]
theorem pf_7o1 (q0 : h 3 (FX5_firstPart_n t (h 28 t.toNatClampNeg) h).toNatClampNeg = 7) (q1 : h 3 ((FX5_firstPart_n t (h 28 t.toNatClampNeg) h) + 1).toNatClampNeg = a) (q2 : h 3 ((FX5_firstPart_n t (h 28 t.toNatClampNeg) h) + 2).toNatClampNeg = b) (q3 : h 3 ((FX5_firstPart_n t (h 28 t.toNatClampNeg) h) + 3).toNatClampNeg = c) : FX3_perform_oc1 t h = FX3_goUnless_oc1 (FX3_slotOf t a) b h := by unfold FX3_perform_oc1; simp (decide := true) only [q0, q1, q2, q3, ↓reduceIte]
theorem pf_8o1 (q0 : h 3 (FX5_firstPart_n t (h 28 t.toNatClampNeg) h).toNatClampNeg = 8) (q1 : h 3 ((FX5_firstPart_n t (h 28 t.toNatClampNeg) h) + 1).toNatClampNeg = a) (q2 : h 3 ((FX5_firstPart_n t (h 28 t.toNatClampNeg) h) + 2).toNatClampNeg = b) (q3 : h 3 ((FX5_firstPart_n t (h 28 t.toNatClampNeg) h) + 3).toNatClampNeg = c) : FX3_perform_oc1 t h = FX3_makeRow_oc1 (FX3_slotOf t a) (FX3_slotOf t b) h := by unfold FX3_perform_oc1; simp (decide := true) only [q0, q1, q2, q3, ↓reduceIte]
theorem pf_9o1 (q0 : h 3 (FX5_firstPart_n t (h 28 t.toNatClampNeg) h).toNatClampNeg = 9) (q1 : h 3 ((FX5_firstPart_n t (h 28 t.toNatClampNeg) h) + 1).toNatClampNeg = a) (q2 : h 3 ((FX5_firstPart_n t (h 28 t.toNatClampNeg) h) + 2).toNatClampNeg = b) (q3 : h 3 ((FX5_firstPart_n t (h 28 t.toNatClampNeg) h) + 3).toNatClampNeg = c) : FX3_perform_oc1 t h = FX3_readRow_oc1 (FX3_slotOf t a) (FX3_slotOf t b) (FX3_slotOf t c) h := by unfold FX3_perform_oc1; simp (decide := true) only [q0, q1, q2, q3, ↓reduceIte]
theorem pf_10o1 (q0 : h 3 (FX5_firstPart_n t (h 28 t.toNatClampNeg) h).toNatClampNeg = 10) (q1 : h 3 ((FX5_firstPart_n t (h 28 t.toNatClampNeg) h) + 1).toNatClampNeg = a) (q2 : h 3 ((FX5_firstPart_n t (h 28 t.toNatClampNeg) h) + 2).toNatClampNeg = b) (q3 : h 3 ((FX5_firstPart_n t (h 28 t.toNatClampNeg) h) + 3).toNatClampNeg = c) : FX3_perform_oc1 t h = FX3_writeRow_oc1 (FX3_slotOf t a) (FX3_slotOf t b) (FX3_slotOf t c) h := by unfold FX3_perform_oc1; simp (decide := true) only [q0, q1, q2, q3, ↓reduceIte]
theorem pf_11o1 (q0 : h 3 (FX5_firstPart_n t (h 28 t.toNatClampNeg) h).toNatClampNeg = 11) (q1 : h 3 ((FX5_firstPart_n t (h 28 t.toNatClampNeg) h) + 1).toNatClampNeg = a) (q2 : h 3 ((FX5_firstPart_n t (h 28 t.toNatClampNeg) h) + 2).toNatClampNeg = b) (q3 : h 3 ((FX5_firstPart_n t (h 28 t.toNatClampNeg) h) + 3).toNatClampNeg = c) : FX3_perform_oc1 t h = if (b &&& 1) = 0 then FX3_makeLock_oc1 (FX3_slotOf t a) 0 h else FX3_makeLock_oc1 (FX3_slotOf t a) 1 h := by
  unfold FX3_perform_oc1 FX3_perform_oc1_288
  simp (decide := true) only [q0, q1, q2, q3, ↓reduceIte]
theorem pf_12o1 (q0 : h 3 (FX5_firstPart_n t (h 28 t.toNatClampNeg) h).toNatClampNeg = 12) (q1 : h 3 ((FX5_firstPart_n t (h 28 t.toNatClampNeg) h) + 1).toNatClampNeg = a) (q2 : h 3 ((FX5_firstPart_n t (h 28 t.toNatClampNeg) h) + 2).toNatClampNeg = b) (q3 : h 3 ((FX5_firstPart_n t (h 28 t.toNatClampNeg) h) + 3).toNatClampNeg = c) : FX3_perform_oc1 t h = FX3_takeLock_oc1 t (FX3_slotOf t a) h := by unfold FX3_perform_oc1; simp (decide := true) only [q0, q1, q2, q3, ↓reduceIte]
theorem pf_13o1 (q0 : h 3 (FX5_firstPart_n t (h 28 t.toNatClampNeg) h).toNatClampNeg = 13) (q1 : h 3 ((FX5_firstPart_n t (h 28 t.toNatClampNeg) h) + 1).toNatClampNeg = a) (q2 : h 3 ((FX5_firstPart_n t (h 28 t.toNatClampNeg) h) + 2).toNatClampNeg = b) (q3 : h 3 ((FX5_firstPart_n t (h 28 t.toNatClampNeg) h) + 3).toNatClampNeg = c) : FX3_perform_oc1 t h = FX3_leaveLock_oc1 t (FX3_slotOf t a) h := by unfold FX3_perform_oc1; simp (decide := true) only [q0, q1, q2, q3, ↓reduceIte]
theorem pf_14o1 (q0 : h 3 (FX5_firstPart_n t (h 28 t.toNatClampNeg) h).toNatClampNeg = 14) (q1 : h 3 ((FX5_firstPart_n t (h 28 t.toNatClampNeg) h) + 1).toNatClampNeg = a) (q2 : h 3 ((FX5_firstPart_n t (h 28 t.toNatClampNeg) h) + 2).toNatClampNeg = b) (q3 : h 3 ((FX5_firstPart_n t (h 28 t.toNatClampNeg) h) + 3).toNatClampNeg = c) : FX3_perform_oc1 t h = FX3_lieDown_oc1 t (FX3_slotOf t a) h := by unfold FX3_perform_oc1; simp (decide := true) only [q0, q1, q2, q3, ↓reduceIte]
theorem pf_15o1 (q0 : h 3 (FX5_firstPart_n t (h 28 t.toNatClampNeg) h).toNatClampNeg = 15) (q1 : h 3 ((FX5_firstPart_n t (h 28 t.toNatClampNeg) h) + 1).toNatClampNeg = a) (q2 : h 3 ((FX5_firstPart_n t (h 28 t.toNatClampNeg) h) + 2).toNatClampNeg = b) (q3 : h 3 ((FX5_firstPart_n t (h 28 t.toNatClampNeg) h) + 3).toNatClampNeg = c) : FX3_perform_oc1 t h = FX3_wakeSleepers_oc1 t (FX3_slotOf t a) h := by unfold FX3_perform_oc1; simp (decide := true) only [q0, q1, q2, q3, ↓reduceIte]
theorem pf_16o1 (q0 : h 3 (FX5_firstPart_n t (h 28 t.toNatClampNeg) h).toNatClampNeg = 16) (q1 : h 3 ((FX5_firstPart_n t (h 28 t.toNatClampNeg) h) + 1).toNatClampNeg = a) (q2 : h 3 ((FX5_firstPart_n t (h 28 t.toNatClampNeg) h) + 2).toNatClampNeg = b) (q3 : h 3 ((FX5_firstPart_n t (h 28 t.toNatClampNeg) h) + 3).toNatClampNeg = c) : FX3_perform_oc1 t h = FX3_takeInput_oc1 (FX3_slotOf t a) h := by unfold FX3_perform_oc1; simp (decide := true) only [q0, q1, q2, q3, ↓reduceIte]
theorem pf_17o1 (q0 : h 3 (FX5_firstPart_n t (h 28 t.toNatClampNeg) h).toNatClampNeg = 17) (q1 : h 3 ((FX5_firstPart_n t (h 28 t.toNatClampNeg) h) + 1).toNatClampNeg = a) (q2 : h 3 ((FX5_firstPart_n t (h 28 t.toNatClampNeg) h) + 2).toNatClampNeg = b) (q3 : h 3 ((FX5_firstPart_n t (h 28 t.toNatClampNeg) h) + 3).toNatClampNeg = c) : FX3_perform_oc1 t h = FX3_startThread_oc1 (FJ9_floorMod_7cf53 a 4) h := by unfold FX3_perform_oc1; simp (decide := true) only [q0, q1, q2, q3, ↓reduceIte]
theorem pf_18o1 (q0 : h 3 (FX5_firstPart_n t (h 28 t.toNatClampNeg) h).toNatClampNeg = 18) (q1 : h 3 ((FX5_firstPart_n t (h 28 t.toNatClampNeg) h) + 1).toNatClampNeg = a) (q2 : h 3 ((FX5_firstPart_n t (h 28 t.toNatClampNeg) h) + 2).toNatClampNeg = b) (q3 : h 3 ((FX5_firstPart_n t (h 28 t.toNatClampNeg) h) + 3).toNatClampNeg = c) : FX3_perform_oc1 t h = (10 + FJ9_floorMod_7cf53 b 10, h) := by unfold FX3_perform_oc1; simp (decide := true) only [q0, q1, q2, q3, ↓reduceIte]
theorem pf_19o1 (q0 : h 3 (FX5_firstPart_n t (h 28 t.toNatClampNeg) h).toNatClampNeg = 19) (q1 : h 3 ((FX5_firstPart_n t (h 28 t.toNatClampNeg) h) + 1).toNatClampNeg = a) (q2 : h 3 ((FX5_firstPart_n t (h 28 t.toNatClampNeg) h) + 2).toNatClampNeg = b) (q3 : h 3 ((FX5_firstPart_n t (h 28 t.toNatClampNeg) h) + 3).toNatClampNeg = c) : FX3_perform_oc1 t h = FX3_goTo_oc1 24 h := by unfold FX3_perform_oc1; simp (decide := true) only [q0, q1, q2, q3, ↓reduceIte]
end
/-! what a step did -/
def EFo1 (h g : ph_H) : Prop := h 25 14 = g 0 29 ∧ h 25 15 = g 0 30 ∧ h 25 16 = g 0 31 ∧ (¬ g 0 31 = 0 → ¬ g 0 31 = 3 → h 25 17 = g 0 32)
def S0co1 (t : Int32) (h g : ph_H) : Prop := h 25 13 = h 28 t.toNatClampNeg + 1 ∧ h 25 14 = -2 ∧ h 25 15 = -2 ∧ h 25 16 = 0 ∧ g 0 29 = -2 ∧ g 0 30 = -2 ∧ g 0 31 = 0
def SIMo1 (t : Int32) (r : Int32 × ph_H) (G : ph_H) : Prop := (FX3_go_oc1_67 t r.1 r.2).1 = G 0 25 ∧ RCo1 (FX3_go_oc1_67 t r.1 r.2).2 G ∧ EFo1 (FX3_go_oc1_67 t r.1 r.2).2 G ∧ FL G
theorem fin_failo1 {t f : Int32} {h g : ph_H} (R : RCo1 h g) (S : S0co1 t h g) (hf : ¬ f = 0) (hm : 0 ≤ f.toInt) : SIMo1 t (f, h) (hs g 0 25 f) := by
  obtain ⟨s1, s2, s3, s4, s5, s6, s7⟩ := S
  unfold SIMo1 FX3_go_oc1_67
  rw [if_neg hf]
  refine ⟨by rw [hs_self], R.rso1 rfl, ?_, ?_⟩
  · simp [EFo1, hs_get, s2, s3, s4, s5, s6, s7]
  · simp [FL, PLp, hs_get, s5, s6, s7, hm]
theorem fin_goo1 {t a : Int32} {X G : ph_H} (R : RCo1 X G) (E : EFo1 X G) (h0 : G 0 25 = 0) (pl : PLp (G 0 29) ∧ PLp (G 0 30)) (e : X 25 13 = a) : SIMo1 t (0, X) (FX12_goTo t a G) := by
  unfold SIMo1 FX3_go_oc1_67
  subst e
  rw [goTo_eq, if_pos rfl]
  refine ⟨?_, R.ato1, ?_, ?_⟩
  · rw [hs_o (by simp)]
    exact h0.symm
  · simpa [EFo1, hs_get] using E
  · have k0 : (0 : Int32).toInt = 0 := by decide
    simp [FL, hs_get, h0, k0, pl]
theorem fin_stayo1 {t : Int32} {X G : ph_H} (R : RCo1 X G) (E : EFo1 X G) (h0 : G 0 25 = 0) (pl : PLp (G 0 29) ∧ PLp (G 0 30)) (e : nrm (G 1 t.toNatClampNeg) (X 25 13) = G 12 t.toNatClampNeg) : SIMo1 t (0, X) G := by
  have k := fin_goo1 (t := t) R E h0 pl rfl
  rw [goTo_eq, e, hs_id] at k
  exact k
/-! each INSTRUCTION -/
theorem op_0o1 {z : zT} {h g : ph_H} {t : Int32} (R : RCo1 h g) (I : IM z g) (ht : iv 0 3 t) (S : S0co1 t h g) (e18 : h 28 t.toNatClampNeg = g 12 t.toNatClampNeg) {i : Int32} (q0 : h 3 (FX5_firstPart_n t (h 28 t.toNatClampNeg) h).toNatClampNeg = g 2 i.toNatClampNeg) (q1 : h 3 ((FX5_firstPart_n t (h 28 t.toNatClampNeg) h) + 1).toNatClampNeg = g 3 i.toNatClampNeg) (q2 : h 3 ((FX5_firstPart_n t (h 28 t.toNatClampNeg) h) + 2).toNatClampNeg = g 4 i.toNatClampNeg) (q3 : h 3 ((FX5_firstPart_n t (h 28 t.toNatClampNeg) h) + 3).toNatClampNeg = g 5 i.toNatClampNeg) (o : g 2 i.toNatClampNeg = 0) : SIMo1 t (FX3_perform_oc1 t h) (FX12_instruct t i g) := by
  rw [pf_0o1 (q0.trans o) q1 q2 q3, ins_0 o, slot_eq t _ g]
  obtain ⟨s1, s2, s3, s4, s5, s6, s7⟩ := S
  refine fin_goo1 ((R.rso1 rfl).sloto1 (Or.inl rfl)) ?_ (by simp [hs_get]) (by simp [PLp, hs_get, s5, s6]) ?_
  · simp [EFo1, hs_get, s2, s3, s4, s5, s6, s7]
  · simp [hs_get, s1, e18]
theorem lv_sloto1 {h g : ph_H} {k : Nat} (R : RCo1 h g) (hk : k < 28) : g 10 k = 0 ∨ (0 ≤ (g 11 k).toInt ∧ (g 11 k).toInt < (g 0 18).toInt ∧ g 16 (g 11 k).toNatClampNeg = g 10 k) := R.2.2.2.2.2.2.1 k hk
theorem op_1o1 {z : zT} {h g : ph_H} {t : Int32} (R : RCo1 h g) (I : IM z g) (ht : iv 0 3 t) (S : S0co1 t h g) (e18 : h 28 t.toNatClampNeg = g 12 t.toNatClampNeg) {i : Int32} (q0 : h 3 (FX5_firstPart_n t (h 28 t.toNatClampNeg) h).toNatClampNeg = g 2 i.toNatClampNeg) (q1 : h 3 ((FX5_firstPart_n t (h 28 t.toNatClampNeg) h) + 1).toNatClampNeg = g 3 i.toNatClampNeg) (q2 : h 3 ((FX5_firstPart_n t (h 28 t.toNatClampNeg) h) + 2).toNatClampNeg = g 4 i.toNatClampNeg) (q3 : h 3 ((FX5_firstPart_n t (h 28 t.toNatClampNeg) h) + 3).toNatClampNeg = g 5 i.toNatClampNeg) (o : g 2 i.toNatClampNeg = 1) : SIMo1 t (FX3_perform_oc1 t h) (FX12_instruct t i g) := by
  rw [pf_1o1 (q0.trans o) q1 q2 q3, ins_1 o, slot_eq t _ g, fmo12]
  obtain ⟨s1, s2, s3, s4, s5, s6, s7⟩ := S
  unfold FX3_getCell_oc1 FX3_hold_oc1
  obtain ⟨e1, e2⟩ := R.1 _ (m12_lt (g 4 i.toNatClampNeg))
  rw [e1, e2]
  refine fin_goo1 (((R.cso1 (by decide)).rso1 rfl).rso1 rfl |>.sloto1 ?_) ?_ (by simp [hs_get]) (by
    have pm : 0 ≤ (FX12_modulo (g 4 i.toNatClampNeg) 12).toInt := (modulo_iv (m := 12) (hi := 11) rfl).1
    simp [PLp, hs_get, s6, pm]) ?_
  · simpa [hs_get] using lv_sloto1 R (m12_lt (g 4 i.toNatClampNeg))
  · simp [EFo1, hs_get, s2, s3, s4, s5, s6, s7]
  · simp [hs_get, s1, e18]
theorem op_2o1 {z : zT} {h g : ph_H} {t : Int32} (R : RCo1 h g) (I : IM z g) (ht : iv 0 3 t) (S : S0co1 t h g) (e18 : h 28 t.toNatClampNeg = g 12 t.toNatClampNeg) {i : Int32} (q0 : h 3 (FX5_firstPart_n t (h 28 t.toNatClampNeg) h).toNatClampNeg = g 2 i.toNatClampNeg) (q1 : h 3 ((FX5_firstPart_n t (h 28 t.toNatClampNeg) h) + 1).toNatClampNeg = g 3 i.toNatClampNeg) (q2 : h 3 ((FX5_firstPart_n t (h 28 t.toNatClampNeg) h) + 2).toNatClampNeg = g 4 i.toNatClampNeg) (q3 : h 3 ((FX5_firstPart_n t (h 28 t.toNatClampNeg) h) + 3).toNatClampNeg = g 5 i.toNatClampNeg) (o : g 2 i.toNatClampNeg = 2) : SIMo1 t (FX3_perform_oc1 t h) (FX12_instruct t i g) := by
  rw [pf_2o1 (q0.trans o) q1 q2 q3, ins_2 o, slot_eq t _ g, fmo12]
  obtain ⟨s1, s2, s3, s4, s5, s6, s7⟩ := S
  unfold FX3_putCell_oc1 FX3_hold_oc1
  obtain ⟨e1, e2⟩ := R.1 _ (sl_lto1 (a := g 4 i.toNatClampNeg) (g := g) ht)
  rw [e1, e2]
  refine fin_goo1 (((R.cso1 (by decide)).rso1 rfl).rso1 rfl |>.sloto1 ?_) ?_ (by simp [hs_get]) (by
    have pm : 0 ≤ (FX12_modulo (g 3 i.toNatClampNeg) 12).toInt := (modulo_iv (m := 12) (hi := 11) rfl).1
    simp [PLp, hs_get, s5, pm]) ?_
  · simpa [hs_get] using lv_sloto1 R (sl_lto1 (a := g 4 i.toNatClampNeg) (g := g) ht)
  · simp [EFo1, hs_get, s2, s3, s4, s5, s6, s7]
  · simp [hs_get, s1, e18]
theorem op_3o1 {z : zT} {h g : ph_H} {t : Int32} (R : RCo1 h g) (I : IM z g) (ht : iv 0 3 t) (S : S0co1 t h g) (e18 : h 28 t.toNatClampNeg = g 12 t.toNatClampNeg) {i : Int32} (q0 : h 3 (FX5_firstPart_n t (h 28 t.toNatClampNeg) h).toNatClampNeg = g 2 i.toNatClampNeg) (q1 : h 3 ((FX5_firstPart_n t (h 28 t.toNatClampNeg) h) + 1).toNatClampNeg = g 3 i.toNatClampNeg) (q2 : h 3 ((FX5_firstPart_n t (h 28 t.toNatClampNeg) h) + 2).toNatClampNeg = g 4 i.toNatClampNeg) (q3 : h 3 ((FX5_firstPart_n t (h 28 t.toNatClampNeg) h) + 3).toNatClampNeg = g 5 i.toNatClampNeg) (o : g 2 i.toNatClampNeg = 3) : SIMo1 t (FX3_perform_oc1 t h) (FX12_instruct t i g) := by
  rw [pf_3o1 (q0.trans o) q1 q2 q3, slot_eq t _ g, slot_eq t _ g]
  unfold FX3_reckon_oc1 FX3_bothNumbers_oc1 FX3_reckon_oc1_58 FX3_hold_oc1
  obtain ⟨a1, a2⟩ := R.1 _ (sl_lto1 (a := g 3 i.toNatClampNeg) (g := g) ht)
  obtain ⟨b1, b2⟩ := R.1 _ (sl_lto1 (a := g 4 i.toNatClampNeg) (g := g) ht)
  rw [a1, b1, a2, b2]
  by_cases n : g 10 (FX12_local t (g 3 i.toNatClampNeg) g).toNatClampNeg = 0 ∧ g 10 (FX12_local t (g 4 i.toNatClampNeg) g).toNatClampNeg = 0
  · rw [ins_3 o n.1 n.2]
    obtain ⟨s1, s2, s3, s4, s5, s6, s7⟩ := S
    simp (decide := true) only [n.1, n.2, ↓reduceIte]
    refine fin_goo1 ((R.rso1 rfl).sloto1 (Or.inl rfl)) ?_ (by simp [hs_get]) (by simp [PLp, hs_get, s5, s6]) ?_
    · simp [EFo1, hs_get, s2, s3, s4, s5, s6, s7]
    · simp [hs_get, s1, e18]
  · rw [ins_f (w := 1) (by rw [o]; decide) (by rw [o]; exact why3 (by simp) n) (by decide)]
    have : (if g 10 (FX12_local t (g 3 i.toNatClampNeg) g).toNatClampNeg = 0 then (if g 10 (FX12_local t (g 4 i.toNatClampNeg) g).toNatClampNeg = 0 then (1 : Int32) else 0) else 0) = 0 := by
      by_cases c1 : g 10 (FX12_local t (g 3 i.toNatClampNeg) g).toNatClampNeg = 0
      · rw [if_pos c1, if_neg (fun w => n ⟨c1, w⟩)]
      · rw [if_neg c1]
    rw [this, if_pos rfl]
    exact fin_failo1 R S (by decide) (by decide)
theorem op_4o1 {z : zT} {h g : ph_H} {t : Int32} (R : RCo1 h g) (I : IM z g) (ht : iv 0 3 t) (S : S0co1 t h g) (e18 : h 28 t.toNatClampNeg = g 12 t.toNatClampNeg) {i : Int32} (q0 : h 3 (FX5_firstPart_n t (h 28 t.toNatClampNeg) h).toNatClampNeg = g 2 i.toNatClampNeg) (q1 : h 3 ((FX5_firstPart_n t (h 28 t.toNatClampNeg) h) + 1).toNatClampNeg = g 3 i.toNatClampNeg) (q2 : h 3 ((FX5_firstPart_n t (h 28 t.toNatClampNeg) h) + 2).toNatClampNeg = g 4 i.toNatClampNeg) (q3 : h 3 ((FX5_firstPart_n t (h 28 t.toNatClampNeg) h) + 3).toNatClampNeg = g 5 i.toNatClampNeg) (o : g 2 i.toNatClampNeg = 4) : SIMo1 t (FX3_perform_oc1 t h) (FX12_instruct t i g) := by
  rw [pf_4o1 (q0.trans o) q1 q2 q3, slot_eq t _ g, slot_eq t _ g]
  unfold FX3_reckon_oc1 FX3_bothNumbers_oc1 FX3_reckon_oc1_58 FX3_hold_oc1
  obtain ⟨a1, a2⟩ := R.1 _ (sl_lto1 (a := g 3 i.toNatClampNeg) (g := g) ht)
  obtain ⟨b1, b2⟩ := R.1 _ (sl_lto1 (a := g 4 i.toNatClampNeg) (g := g) ht)
  rw [a1, b1, a2, b2]
  by_cases n : g 10 (FX12_local t (g 3 i.toNatClampNeg) g).toNatClampNeg = 0 ∧ g 10 (FX12_local t (g 4 i.toNatClampNeg) g).toNatClampNeg = 0
  · rw [ins_4 o n.1 n.2]
    obtain ⟨s1, s2, s3, s4, s5, s6, s7⟩ := S
    simp (decide := true) only [n.1, n.2, ↓reduceIte]
    refine fin_goo1 ((R.rso1 rfl).sloto1 (Or.inl rfl)) ?_ (by simp [hs_get]) (by simp [PLp, hs_get, s5, s6]) ?_
    · simp [EFo1, hs_get, s2, s3, s4, s5, s6, s7]
    · simp [hs_get, s1, e18]
  · rw [ins_f (w := 1) (by rw [o]; decide) (by rw [o]; exact why3 (by simp) n) (by decide)]
    have : (if g 10 (FX12_local t (g 3 i.toNatClampNeg) g).toNatClampNeg = 0 then (if g 10 (FX12_local t (g 4 i.toNatClampNeg) g).toNatClampNeg = 0 then (1 : Int32) else 0) else 0) = 0 := by
      by_cases c1 : g 10 (FX12_local t (g 3 i.toNatClampNeg) g).toNatClampNeg = 0
      · rw [if_pos c1, if_neg (fun w => n ⟨c1, w⟩)]
      · rw [if_neg c1]
    rw [this, if_pos rfl]
    exact fin_failo1 R S (by decide) (by decide)
theorem op_5o1 {z : zT} {h g : ph_H} {t : Int32} (R : RCo1 h g) (I : IM z g) (ht : iv 0 3 t) (S : S0co1 t h g) (e18 : h 28 t.toNatClampNeg = g 12 t.toNatClampNeg) {i : Int32} (q0 : h 3 (FX5_firstPart_n t (h 28 t.toNatClampNeg) h).toNatClampNeg = g 2 i.toNatClampNeg) (q1 : h 3 ((FX5_firstPart_n t (h 28 t.toNatClampNeg) h) + 1).toNatClampNeg = g 3 i.toNatClampNeg) (q2 : h 3 ((FX5_firstPart_n t (h 28 t.toNatClampNeg) h) + 2).toNatClampNeg = g 4 i.toNatClampNeg) (q3 : h 3 ((FX5_firstPart_n t (h 28 t.toNatClampNeg) h) + 3).toNatClampNeg = g 5 i.toNatClampNeg) (o : g 2 i.toNatClampNeg = 5) : SIMo1 t (FX3_perform_oc1 t h) (FX12_instruct t i g) := by
  rw [pf_5o1 (q0.trans o) q1 q2 q3, slot_eq t _ g, slot_eq t _ g]
  unfold FX3_reckon_oc1 FX3_bothNumbers_oc1 FX3_reckon_oc1_58 FX3_hold_oc1
  obtain ⟨a1, a2⟩ := R.1 _ (sl_lto1 (a := g 3 i.toNatClampNeg) (g := g) ht)
  obtain ⟨b1, b2⟩ := R.1 _ (sl_lto1 (a := g 4 i.toNatClampNeg) (g := g) ht)
  rw [a1, b1, a2, b2]
  by_cases n : g 10 (FX12_local t (g 3 i.toNatClampNeg) g).toNatClampNeg = 0 ∧ g 10 (FX12_local t (g 4 i.toNatClampNeg) g).toNatClampNeg = 0
  · rw [ins_5 o n.1 n.2]
    obtain ⟨s1, s2, s3, s4, s5, s6, s7⟩ := S
    simp (decide := true) only [n.1, n.2, ↓reduceIte]
    refine fin_goo1 ((R.rso1 rfl).sloto1 (Or.inl rfl)) ?_ (by simp [hs_get]) (by simp [PLp, hs_get, s5, s6]) ?_
    · simp [EFo1, hs_get, s2, s3, s4, s5, s6, s7]
    · simp [hs_get, s1, e18]
  · rw [ins_f (w := 1) (by rw [o]; decide) (by rw [o]; exact why3 (by simp) n) (by decide)]
    have : (if g 10 (FX12_local t (g 3 i.toNatClampNeg) g).toNatClampNeg = 0 then (if g 10 (FX12_local t (g 4 i.toNatClampNeg) g).toNatClampNeg = 0 then (1 : Int32) else 0) else 0) = 0 := by
      by_cases c1 : g 10 (FX12_local t (g 3 i.toNatClampNeg) g).toNatClampNeg = 0
      · rw [if_pos c1, if_neg (fun w => n ⟨c1, w⟩)]
      · rw [if_neg c1]
    rw [this, if_pos rfl]
    exact fin_failo1 R S (by decide) (by decide)
theorem op_6o1 {z : zT} {h g : ph_H} {t : Int32} (R : RCo1 h g) (I : IM z g) (ht : iv 0 3 t) (S : S0co1 t h g) (e18 : h 28 t.toNatClampNeg = g 12 t.toNatClampNeg) {i : Int32} (q0 : h 3 (FX5_firstPart_n t (h 28 t.toNatClampNeg) h).toNatClampNeg = g 2 i.toNatClampNeg) (q1 : h 3 ((FX5_firstPart_n t (h 28 t.toNatClampNeg) h) + 1).toNatClampNeg = g 3 i.toNatClampNeg) (q2 : h 3 ((FX5_firstPart_n t (h 28 t.toNatClampNeg) h) + 2).toNatClampNeg = g 4 i.toNatClampNeg) (q3 : h 3 ((FX5_firstPart_n t (h 28 t.toNatClampNeg) h) + 3).toNatClampNeg = g 5 i.toNatClampNeg) (o : g 2 i.toNatClampNeg = 6) : SIMo1 t (FX3_perform_oc1 t h) (FX12_instruct t i g) := by
  rw [pf_6o1 (q0.trans o) q1 q2 q3, ins_6 o]
  obtain ⟨s1, s2, s3, s4, s5, s6, s7⟩ := S
  unfold FX3_goTo_oc1
  refine fin_goo1 ((R.cso1 (by decide)).rso1 rfl) ?_ (by simp [hs_get]) (by simp [PLp, hs_get, s5, s6]) ?_
  · simp [EFo1, hs_get, s2, s3, s4, s5, s6, s7]
  · simp [hs_get]
theorem op_7o1 {z : zT} {h g : ph_H} {t : Int32} (R : RCo1 h g) (I : IM z g) (ht : iv 0 3 t) (S : S0co1 t h g) (e18 : h 28 t.toNatClampNeg = g 12 t.toNatClampNeg) {i : Int32} (q0 : h 3 (FX5_firstPart_n t (h 28 t.toNatClampNeg) h).toNatClampNeg = g 2 i.toNatClampNeg) (q1 : h 3 ((FX5_firstPart_n t (h 28 t.toNatClampNeg) h) + 1).toNatClampNeg = g 3 i.toNatClampNeg) (q2 : h 3 ((FX5_firstPart_n t (h 28 t.toNatClampNeg) h) + 2).toNatClampNeg = g 4 i.toNatClampNeg) (q3 : h 3 ((FX5_firstPart_n t (h 28 t.toNatClampNeg) h) + 3).toNatClampNeg = g 5 i.toNatClampNeg) (o : g 2 i.toNatClampNeg = 7) : SIMo1 t (FX3_perform_oc1 t h) (FX12_instruct t i g) := by
  rw [pf_7o1 (q0.trans o) q1 q2 q3, slot_eq t _ g]
  unfold FX3_goUnless_oc1 FX3_goUnless_oc1_25 FX3_goTo_oc1
  obtain ⟨a1, a2⟩ := R.1 _ (sl_lto1 (a := g 3 i.toNatClampNeg) (g := g) ht)
  rw [a1, a2]
  by_cases c1 : g 10 (FX12_local t (g 3 i.toNatClampNeg) g).toNatClampNeg = 0
  · rw [if_pos c1]
    by_cases c2 : g 11 (FX12_local t (g 3 i.toNatClampNeg) g).toNatClampNeg = 0
    · rw [if_pos c2, ins_7j o c1 c2]
      obtain ⟨s1, s2, s3, s4, s5, s6, s7⟩ := S
      refine fin_goo1 ((R.cso1 (by decide)).rso1 rfl) ?_ (by simp [hs_get]) (by simp [PLp, hs_get, s5, s6]) ?_
      · simp [EFo1, hs_get, s2, s3, s4, s5, s6, s7]
      · simp [hs_get]
    · rw [if_neg c2, ins_7n o c1 c2]
      obtain ⟨s1, s2, s3, s4, s5, s6, s7⟩ := S
      refine fin_goo1 (R.rso1 rfl) ?_ (by simp [hs_get]) (by simp [PLp, hs_get, s5, s6]) ?_
      · simp [EFo1, hs_get, s2, s3, s4, s5, s6, s7]
      · simp [hs_get, s1, e18]
  · rw [if_neg c1, ins_f (w := 1) (by rw [o]; decide) (by rw [o]; unfold FX12_why; simp (decide := true) only [c1, ↓reduceIte]) (by decide)]
    exact fin_failo1 R S (by decide) (by decide)
theorem op_18o1 {z : zT} {h g : ph_H} {t : Int32} (R : RCo1 h g) (I : IM z g) (ht : iv 0 3 t) (S : S0co1 t h g) (e18 : h 28 t.toNatClampNeg = g 12 t.toNatClampNeg) {i : Int32} (q0 : h 3 (FX5_firstPart_n t (h 28 t.toNatClampNeg) h).toNatClampNeg = g 2 i.toNatClampNeg) (q1 : h 3 ((FX5_firstPart_n t (h 28 t.toNatClampNeg) h) + 1).toNatClampNeg = g 3 i.toNatClampNeg) (q2 : h 3 ((FX5_firstPart_n t (h 28 t.toNatClampNeg) h) + 2).toNatClampNeg = g 4 i.toNatClampNeg) (q3 : h 3 ((FX5_firstPart_n t (h 28 t.toNatClampNeg) h) + 3).toNatClampNeg = g 5 i.toNatClampNeg) (o : g 2 i.toNatClampNeg = 18) : SIMo1 t (FX3_perform_oc1 t h) (FX12_instruct t i g) := by
  rw [pf_18o1 (q0.trans o) q1 q2 q3, fmo10]
  have f : iv 0 9 (FX12_modulo (g 4 i.toNatClampNeg) 10) := modulo_iv (m := 10) rfl
  have f2 : iv 10 19 (10 + FX12_modulo (g 4 i.toNatClampNeg) 10) := iv_add (a := 10) (b := 10) (iv_lit rfl) f rfl
  rw [ins_f (w := 10 + FX12_modulo (g 4 i.toNatClampNeg) 10) (by rw [o]; decide) (by rw [o]; unfold FX12_why; simp (decide := true) only [↓reduceIte]) (fun w => by
    rw [Int32.le_iff_toInt_le] at w
    have h0 : (0 : Int32).toInt = 0 := by decide
    unfold iv at f2
    omega)]
  exact fin_failo1 R S (iv_ne0 f2 rfl) (by
    unfold iv at f2
    omega)
theorem op_19o1 {z : zT} {h g : ph_H} {t : Int32} (R : RCo1 h g) (I : IM z g) (ht : iv 0 3 t) (S : S0co1 t h g) (e18 : h 28 t.toNatClampNeg = g 12 t.toNatClampNeg) {i : Int32} (q0 : h 3 (FX5_firstPart_n t (h 28 t.toNatClampNeg) h).toNatClampNeg = g 2 i.toNatClampNeg) (q1 : h 3 ((FX5_firstPart_n t (h 28 t.toNatClampNeg) h) + 1).toNatClampNeg = g 3 i.toNatClampNeg) (q2 : h 3 ((FX5_firstPart_n t (h 28 t.toNatClampNeg) h) + 2).toNatClampNeg = g 4 i.toNatClampNeg) (q3 : h 3 ((FX5_firstPart_n t (h 28 t.toNatClampNeg) h) + 3).toNatClampNeg = g 5 i.toNatClampNeg) (o : g 2 i.toNatClampNeg = 19) : SIMo1 t (FX3_perform_oc1 t h) (FX12_instruct t i g) := by
  rw [pf_19o1 (q0.trans o) q1 q2 q3, ins_19 o]
  obtain ⟨s1, s2, s3, s4, s5, s6, s7⟩ := S
  unfold FX3_goTo_oc1
  refine fin_goo1 ((R.cso1 (by decide)).rso1 rfl) ?_ (by simp [hs_get]) (by simp [PLp, hs_get, s5, s6]) ?_
  · simp [EFo1, hs_get, s2, s3, s4, s5, s6, s7]
  · simp [hs_get]
end MG_48_x22A5o1
section MG_48_x23A6o1
theorem gate_eqo1 {h g : ph_H} {k : Int32} (R : RCo1 h g) (hk : k.toNatClampNeg < 28) : FX3_gateIn_oc1 k h = if g 10 k.toNatClampNeg = 3 then g 11 k.toNatClampNeg else -1 := by
  obtain ⟨e1, e2⟩ := R.1 _ hk
  unfold FX3_gateIn_oc1
  rw [e1, e2]
theorem op_12o1 {z : zT} {h g : ph_H} {t : Int32} (R : RCo1 h g) (I : IM z g) (ht : iv 0 3 t) (S : S0co1 t h g) (e18 : h 28 t.toNatClampNeg = g 12 t.toNatClampNeg) {i : Int32} (q0 : h 3 (FX5_firstPart_n t (h 28 t.toNatClampNeg) h).toNatClampNeg = g 2 i.toNatClampNeg) (q1 : h 3 ((FX5_firstPart_n t (h 28 t.toNatClampNeg) h) + 1).toNatClampNeg = g 3 i.toNatClampNeg) (q2 : h 3 ((FX5_firstPart_n t (h 28 t.toNatClampNeg) h) + 2).toNatClampNeg = g 4 i.toNatClampNeg) (q3 : h 3 ((FX5_firstPart_n t (h 28 t.toNatClampNeg) h) + 3).toNatClampNeg = g 5 i.toNatClampNeg) (o : g 2 i.toNatClampNeg = 12) : SIMo1 t (FX3_perform_oc1 t h) (FX12_instruct t i g) := by
  rw [pf_12o1 (q0.trans o) q1 q2 q3, slot_eq t _ g]
  unfold FX3_takeLock_oc1 FX3_own_oc1
  rw [lock_eqo1 R (sl_lto1 ht)]
  by_cases l : FX12_isLock (FX12_local t (g 3 i.toNatClampNeg) g) g = 0
  · rw [ins_f (w := 1) (by rw [o]; decide) (by rw [o]; unfold FX12_why; simp (decide := true) only [l, ↓reduceIte]) (by decide)]
    simp (decide := true) only [l, le_n1, ↓reduceIte]
    exact fin_failo1 R S (by decide) (by decide)
  · have l0 := isLock_to1 l
    have lo := own_ato1 R (sl_lto1 ht) l0
    obtain ⟨a, b, c⟩ := refso1 R (sl_lto1 ht) l0
    have nn := nn_le (x := g 11 (FX12_local t (g 3 i.toNatClampNeg) g).toNatClampNeg) (by omega)
    simp (decide := true) only [l, nn, ↓reduceIte]
    by_cases u : g 17 (g 11 (FX12_local t (g 3 i.toNatClampNeg) g).toNatClampNeg).toNatClampNeg = t
    · rw [ins_f (w := 5) (by rw [o]; decide) (by rw [o]; unfold FX12_why; simp (decide := true) only [l, u, ↓reduceIte]) (by decide), if_pos ((OW_own lo ht).mpr u)]
      exact fin_failo1 R S (by decide) (by decide)
    · rw [if_neg (fun w => u ((OW_own lo ht).mp w)), ins_12 o l u]
      obtain ⟨s1, s2, s3, s4, s5, s6, s7⟩ := S
      refine fin_goo1 (((((R.rso1 rfl).owno1 (Or.inr ⟨rfl, ht⟩)).cso1 (by decide)).cso1 (by decide)).rso1 rfl |>.rso1 rfl) ?_ (by simp [hs_get]) (by simp [PLp, hs_get, s5, s6]) ?_
      · simp [EFo1, hs_get, s2, s3, s4, s5, s6, s7]
      · simp [hs_get, s1, e18]
theorem op_13o1 {z : zT} {h g : ph_H} {t : Int32} (R : RCo1 h g) (I : IM z g) (ht : iv 0 3 t) (S : S0co1 t h g) (e18 : h 28 t.toNatClampNeg = g 12 t.toNatClampNeg) {i : Int32} (q0 : h 3 (FX5_firstPart_n t (h 28 t.toNatClampNeg) h).toNatClampNeg = g 2 i.toNatClampNeg) (q1 : h 3 ((FX5_firstPart_n t (h 28 t.toNatClampNeg) h) + 1).toNatClampNeg = g 3 i.toNatClampNeg) (q2 : h 3 ((FX5_firstPart_n t (h 28 t.toNatClampNeg) h) + 2).toNatClampNeg = g 4 i.toNatClampNeg) (q3 : h 3 ((FX5_firstPart_n t (h 28 t.toNatClampNeg) h) + 3).toNatClampNeg = g 5 i.toNatClampNeg) (o : g 2 i.toNatClampNeg = 13) : SIMo1 t (FX3_perform_oc1 t h) (FX12_instruct t i g) := by
  rw [pf_13o1 (q0.trans o) q1 q2 q3, slot_eq t _ g]
  unfold FX3_leaveLock_oc1 FX3_free_oc1
  rw [lock_eqo1 R (sl_lto1 ht)]
  by_cases l : FX12_isLock (FX12_local t (g 3 i.toNatClampNeg) g) g = 0
  · rw [ins_f (w := 1) (by rw [o]; decide) (by rw [o]; unfold FX12_why; simp (decide := true) only [l, ↓reduceIte]) (by decide)]
    simp (decide := true) only [l, le_n1, ↓reduceIte]
    exact fin_failo1 R S (by decide) (by decide)
  · have l0 := isLock_to1 l
    have lo := own_ato1 R (sl_lto1 ht) l0
    obtain ⟨a, b, c⟩ := refso1 R (sl_lto1 ht) l0
    have nn := nn_le (x := g 11 (FX12_local t (g 3 i.toNatClampNeg) g).toNatClampNeg) (by omega)
    simp (decide := true) only [l, nn, ↓reduceIte]
    by_cases u : g 17 (g 11 (FX12_local t (g 3 i.toNatClampNeg) g).toNatClampNeg).toNatClampNeg = t
    · rw [if_pos ((OW_own lo ht).mpr u), ins_13 o l u]
      obtain ⟨s1, s2, s3, s4, s5, s6, s7⟩ := S
      refine fin_goo1 (((((R.rso1 rfl).owno1 (Or.inl ⟨rfl, rfl⟩)).cso1 (by decide)).cso1 (by decide)).rso1 rfl |>.rso1 rfl) ?_ (by simp [hs_get]) (by simp [PLp, hs_get, s5, s6]) ?_
      · simp [EFo1, hs_get, s2, s3, s4, s5, s6, s7]
      · simp [hs_get, s1, e18]
    · rw [ins_f (w := 6) (by rw [o]; decide) (by rw [o]; unfold FX12_why; simp (decide := true) only [l, u, ↓reduceIte]) (by decide), if_neg (fun w => u ((OW_own lo ht).mp w))]
      exact fin_failo1 R S (by decide) (by decide)
theorem op_14o1 {z : zT} {h g : ph_H} {t : Int32} (R : RCo1 h g) (I : IM z g) (ht : iv 0 3 t) (S : S0co1 t h g) (e18 : h 28 t.toNatClampNeg = g 12 t.toNatClampNeg) (m1 : h 29 t.toNatClampNeg = 1) {i : Int32} (q0 : h 3 (FX5_firstPart_n t (h 28 t.toNatClampNeg) h).toNatClampNeg = g 2 i.toNatClampNeg) (q1 : h 3 ((FX5_firstPart_n t (h 28 t.toNatClampNeg) h) + 1).toNatClampNeg = g 3 i.toNatClampNeg) (q2 : h 3 ((FX5_firstPart_n t (h 28 t.toNatClampNeg) h) + 2).toNatClampNeg = g 4 i.toNatClampNeg) (q3 : h 3 ((FX5_firstPart_n t (h 28 t.toNatClampNeg) h) + 3).toNatClampNeg = g 5 i.toNatClampNeg) (o : g 2 i.toNatClampNeg = 14) : SIMo1 t (FX3_perform_oc1 t h) (FX12_instruct t i g) := by
  rw [pf_14o1 (q0.trans o) q1 q2 q3, slot_eq t _ g]
  unfold FX3_lieDown_oc1 FX3_free_oc1
  rw [gate_eqo1 R (sl_lto1 ht)]
  by_cases l : g 10 (FX12_local t (g 3 i.toNatClampNeg) g).toNatClampNeg = 3
  · have l0 : ¬ g 10 (FX12_local t (g 3 i.toNatClampNeg) g).toNatClampNeg = 0 := fun w => absurd (w.symm.trans l) (by decide)
    have lo := own_ato1 R (sl_lto1 ht) l0
    obtain ⟨a, b, c⟩ := refso1 R (sl_lto1 ht) l0
    have nn := nn_le (x := g 11 (FX12_local t (g 3 i.toNatClampNeg) g).toNatClampNeg) (by omega)
    have tn := th_nn I
    simp (decide := true) only [l, nn, ↓reduceIte]
    by_cases u : g 17 (g 11 (FX12_local t (g 3 i.toNatClampNeg) g).toNatClampNeg).toNatClampNeg = t
    · rw [if_pos ((OW_own lo ht).mpr u), ins_14 o l u]
      have s1 := S.1
      obtain ⟨s1, s2, s3, s4, s5, s6, s7⟩ := S
      have R1 := (R.rso1 (i := 25) (v := 0) rfl).lieo1 (z := z) (q := g 11 (FX12_local t (g 3 i.toNatClampNeg) g).toNatClampNeg) (IMs I (iv_any _) rfl) (t_lto1 ht) m1 ⟨by omega, by omega⟩ (by rw [hs_o (by simp)]; omega)
      have R2 := (R1.cso1 (i := 13) (v := h 28 t.toNatClampNeg) (by decide)).owno1 (x := (g 11 (FX12_local t (g 3 i.toNatClampNeg) g).toNatClampNeg).toNatClampNeg) (c := -2) (r := -1) (Or.inl ⟨rfl, rfl⟩)
      have R3 := (((R2.cso1 (i := 16) (v := 2) (by decide)).cso1 (i := 17) (v := g 11 (FX12_local t (g 3 i.toNatClampNeg) g).toNatClampNeg) (by decide)).rso1 (i := 31) (v := 2) rfl).rso1 (i := 32) (v := g 11 (FX12_local t (g 3 i.toNatClampNeg) g).toNatClampNeg) rfl
      rw [hs_comm _ 14 _ _ 17 _ _ (Or.inl (by decide))] at R3
      refine fin_stayo1 R3 ?_ (by simp [hs_get]) (by simp [PLp, hs_get, s5, s6]) ?_
      · simp [EFo1, hs_get, s2, s3, s4, s5, s6, s7]
      · have := R.2.1 _ (t_lto1 ht)
        simpa [hs_get] using this
    · rw [ins_f (w := 6) (by rw [o]; decide) (by rw [o]; unfold FX12_why; simp (decide := true) only [l, u, ↓reduceIte]) (by decide), if_neg (fun w => u ((OW_own lo ht).mp w))]
      exact fin_failo1 R S (by decide) (by decide)
  · rw [ins_f (w := 1) (by rw [o]; decide) (by rw [o]; unfold FX12_why; simp (decide := true) only [l, ↓reduceIte]) (by decide)]
    simp (decide := true) only [l, le_n1, ↓reduceIte]
    exact fin_failo1 R S (by decide) (by decide)
theorem op_16o1 {z : zT} {h g : ph_H} {t : Int32} (R : RCo1 h g) (I : IM z g) (ht : iv 0 3 t) (S : S0co1 t h g) (e18 : h 28 t.toNatClampNeg = g 12 t.toNatClampNeg) (kk : ¬ g 0 33 = 0 → ¬ g 0 23 = g 0 34) {i : Int32} (q0 : h 3 (FX5_firstPart_n t (h 28 t.toNatClampNeg) h).toNatClampNeg = g 2 i.toNatClampNeg) (q1 : h 3 ((FX5_firstPart_n t (h 28 t.toNatClampNeg) h) + 1).toNatClampNeg = g 3 i.toNatClampNeg) (q2 : h 3 ((FX5_firstPart_n t (h 28 t.toNatClampNeg) h) + 2).toNatClampNeg = g 4 i.toNatClampNeg) (q3 : h 3 ((FX5_firstPart_n t (h 28 t.toNatClampNeg) h) + 3).toNatClampNeg = g 5 i.toNatClampNeg) (o : g 2 i.toNatClampNeg = 16) : SIMo1 t (FX3_perform_oc1 t h) (FX12_instruct t i g) := by
  rw [pf_16o1 (q0.trans o) q1 q2 q3, slot_eq t _ g]
  unfold FX3_takeInput_oc1 FX3_hold_oc1
  obtain ⟨i1, i2, i3, i4⟩ := R.2.2.2.2.1
  rw [i1, i2]
  have t30 : iv 0 30 (g 0 23) := IMv I 0 23
  have t7 : iv 0 30 (g 0 7) := IMv I 0 7
  have t34 : iv 0 30 (g 0 34) := IMv I 0 34
  have k1 : (1 : Int32).toInt = 1 := by decide
  have k30 : (30 : Int32).toInt = 30 := by decide
  have tn := iv_nat t30 rfl
  unfold iv at t30 t7 t34
  have e1 : g 0 23 + 1 - 1 = g 0 23 := tI (by rw [ti_sub, ti_add] <;> (try rw [ti_add]) <;> omega)
  have e2 : (g 0 23 + 1).toInt = (g 0 23).toInt + 1 := by rw [ti_add (by omega) (by omega), k1]
  have kb : (kn g).toInt ≤ 30 := by unfold kn; split <;> omega
  rw [e1]
  by_cases f : kn g ≤ g 0 23
  · rw [if_pos f]
    rw [Int32.le_iff_toInt_le] at f
    have eq : g 0 23 = kn g := tI (by omega)
    by_cases c : g 0 33 = 0
    · have : g 0 23 = g 0 7 := by rw [eq]; unfold kn; rw [if_pos c]
      rw [ins_f (w := 7) (by rw [o]; decide) (by rw [o]; unfold FX12_why; simp (decide := true) only [c, this, ↓reduceIte]) (by decide)]
      exact fin_failo1 R S (by decide) (by decide)
    · exact absurd (by rw [eq]; unfold kn; rw [if_neg c]) (kk c)
  · rw [if_neg f]
    rw [Int32.le_iff_toInt_le] at f
    have lt : g 0 23 < 30 := by rw [Int32.lt_iff_toInt_lt, k30]; omega
    rw [if_pos lt, i4 _ (by omega)]
    obtain ⟨s1, s2, s3, s4, s5, s6, s7⟩ := S
    by_cases c : g 0 33 = 0
    · have n7 : ¬ g 0 23 = g 0 7 := fun w => f (by unfold kn; rw [if_pos c, w]; omega)
      rw [ins_16u o c n7]
      unfold vi
      rw [if_pos c]
      have R1 := ((R.rso1 (i := 25) (v := 0) rfl).takeo1 (v := g 0 23 + 1) (by
        have : kn (hs g 0 25 0) = kn g := by unfold kn; simp [hs_get]
        rw [this]; omega)).sloto1 (k := (FX12_local t (g 3 i.toNatClampNeg) g).toNatClampNeg) (kd := 0) (v := g 7 (g 0 23).toNatClampNeg) (Or.inl rfl)
      rw [hs_comm _ 0 23 _ 10 _ _ (Or.inl (by decide)), hs_comm _ 0 23 _ 11 _ _ (Or.inl (by decide))] at R1
      refine fin_goo1 R1 ?_ (by simp [hs_get]) (by simp [PLp, hs_get, s5, s6]) ?_
      · simp [EFo1, hs_get, s2, s3, s4, s5, s6, s7]
      · simp [hs_get, s1, e18]
    · rw [ins_16k o c]
      unfold vi
      rw [if_neg c]
      have R1 := ((R.rso1 (i := 25) (v := 0) rfl).takeo1 (v := g 0 23 + 1) (by
        have : kn (hs g 0 25 0) = kn g := by unfold kn; simp [hs_get]
        rw [this]; omega)).sloto1 (k := (FX12_local t (g 3 i.toNatClampNeg) g).toNatClampNeg) (kd := 0) (v := g 36 (g 0 23).toNatClampNeg) (Or.inl rfl)
      rw [hs_comm _ 0 23 _ 10 _ _ (Or.inl (by decide)), hs_comm _ 0 23 _ 11 _ _ (Or.inl (by decide))] at R1
      refine fin_goo1 R1 ?_ (by simp [hs_get]) (by simp [PLp, hs_get, s5, s6]) ?_
      · simp [EFo1, hs_get, s2, s3, s4, s5, s6, s7]
      · simp [hs_get, s1, e18]
theorem op_17o1 {z : zT} {h g : ph_H} {t : Int32} (R : RCo1 h g) (I : IM z g) (ht : iv 0 3 t) (S : S0co1 t h g) (e18 : h 28 t.toNatClampNeg = g 12 t.toNatClampNeg) {i : Int32} (q0 : h 3 (FX5_firstPart_n t (h 28 t.toNatClampNeg) h).toNatClampNeg = g 2 i.toNatClampNeg) (q1 : h 3 ((FX5_firstPart_n t (h 28 t.toNatClampNeg) h) + 1).toNatClampNeg = g 3 i.toNatClampNeg) (q2 : h 3 ((FX5_firstPart_n t (h 28 t.toNatClampNeg) h) + 2).toNatClampNeg = g 4 i.toNatClampNeg) (q3 : h 3 ((FX5_firstPart_n t (h 28 t.toNatClampNeg) h) + 3).toNatClampNeg = g 5 i.toNatClampNeg) (o : g 2 i.toNatClampNeg = 17) : SIMo1 t (FX3_perform_oc1 t h) (FX12_instruct t i g) := by
  rw [pf_17o1 (q0.trans o) q1 q2 q3, fmo4]
  unfold FX3_startThread_oc1
  by_cases c : h 29 (FX12_modulo (g 3 i.toNatClampNeg) 4).toNatClampNeg = 0
  · have m := MD0 (R.2.2.1 _ (m4_lt (g 3 i.toNatClampNeg))) c
    rw [if_pos c, ins_17 o m.1]
    obtain ⟨s1, s2, s3, s4, s5, s6, s7⟩ := S
    have R1 := ((((R.rso1 (i := 25) (v := 0) rfl).starto1 (z := z) (IMs I (iv_any _) rfl) (m4_lt (g 3 i.toNatClampNeg)) c).cso1 (i := 16) (v := 4) (by decide)).cso1 (i := 17) (v := FX12_modulo (g 3 i.toNatClampNeg) 4) (by decide)).rso1 (i := 31) (v := 4) rfl |>.rso1 (i := 32) (v := FX12_modulo (g 3 i.toNatClampNeg) 4) rfl
    refine fin_goo1 R1 ?_ (by simp [hs_get]) (by simp [PLp, hs_get, s5, s6]) ?_
    · simp [EFo1, hs_get, s2, s3, s4, s5, s6, s7]
    · simp [hs_get, s1, e18]
  · rw [if_neg c, ins_17f o (by
      rcases R.2.2.1 _ (m4_lt (g 3 i.toNatClampNeg)) with ⟨a, b⟩ | ⟨a, b, _⟩ | ⟨a, b, _⟩ | ⟨a, b, _⟩
      · exact absurd a c
      all_goals rw [b]; decide)]
    exact fin_failo1 R S (by decide) (by decide)
end MG_48_x23A6o1
section MG_48_x24A7o1
/-! places of rows -/
theorem rowp_eqo1 {z : zT} {h g : ph_H} {b : Nat} {v : Int32} (R : RCo1 h g) (I : IM z g) (hb : b < 28) (k : g 10 b = 1) : (FX3_hasRowPlace_oc1 (g 11 b) v h = 0) = (FX12_isIn v.toInt64 0 ((g 18 (g 11 b).toNatClampNeg - 1).toInt64) = 0) := by
  have k0 : ¬ g 10 b = 0 := fun w => absurd (w.symm.trans k) (by decide)
  obtain ⟨a1, a2, a3⟩ := refso1 R hb k0
  have s16 : iv 0 16 (g 18 (g 11 b).toNatClampNeg) := IMv I 18 _
  obtain ⟨t1, t2⟩ := R.2.2.2.1
  obtain ⟨u1, u2, u3, u4⟩ := t2 _ a2
  have h0 : (0 : Int32).toInt = 0 := by decide
  apply propext
  rw [rowp_iff s16]
  unfold FX3_hasRowPlace_oc1
  have c1 := nn_t (x := g 11 b) (by omega)
  have c2 : ¬ g 0 18 ≤ g 11 b := by rw [Int32.le_iff_toInt_le]; omega
  simp (decide := true) only [t1, u1, u2, a3, k, c1, c2, ↓reduceIte]
  by_cases d : v < 0
  · rw [if_pos d]
    rw [Int32.lt_iff_toInt_lt] at d
    exact ⟨fun _ => by omega, fun _ => rfl⟩
  · rw [if_neg d]
    have d1 := nlt d
    rw [Int32.le_iff_toInt_le] at d1
    by_cases e : g 18 (g 11 b).toNatClampNeg ≤ v
    · rw [if_pos e]
      rw [Int32.le_iff_toInt_le] at e
      exact ⟨fun _ => by omega, fun _ => rfl⟩
    · rw [if_neg e]
      rw [Int32.le_iff_toInt_le] at e
      exact ⟨fun w => absurd w (by decide), fun w => by omega⟩
theorem op_9o1 {z : zT} {h g : ph_H} {t : Int32} (R : RCo1 h g) (I : IM z g) (ht : iv 0 3 t) (S : S0co1 t h g) (e18 : h 28 t.toNatClampNeg = g 12 t.toNatClampNeg) {i : Int32} (q0 : h 3 (FX5_firstPart_n t (h 28 t.toNatClampNeg) h).toNatClampNeg = g 2 i.toNatClampNeg) (q1 : h 3 ((FX5_firstPart_n t (h 28 t.toNatClampNeg) h) + 1).toNatClampNeg = g 3 i.toNatClampNeg) (q2 : h 3 ((FX5_firstPart_n t (h 28 t.toNatClampNeg) h) + 2).toNatClampNeg = g 4 i.toNatClampNeg) (q3 : h 3 ((FX5_firstPart_n t (h 28 t.toNatClampNeg) h) + 3).toNatClampNeg = g 5 i.toNatClampNeg) (o : g 2 i.toNatClampNeg = 9) : SIMo1 t (FX3_perform_oc1 t h) (FX12_instruct t i g) := by
  rw [pf_9o1 (q0.trans o) q1 q2 q3, slot_eq t _ g, slot_eq t _ g, slot_eq t _ g]
  unfold FX3_readRow_oc1 FX3_hold_oc1
  obtain ⟨b1, b2⟩ := R.1 _ (sl_lto1 (a := g 4 i.toNatClampNeg) (g := g) ht)
  obtain ⟨d1, d2⟩ := R.1 _ (sl_lto1 (a := g 5 i.toNatClampNeg) (g := g) ht)
  rw [b1, b2, d1, d2]
  by_cases c1 : g 10 (FX12_local t (g 4 i.toNatClampNeg) g).toNatClampNeg = 1
  · by_cases c2 : g 10 (FX12_local t (g 5 i.toNatClampNeg) g).toNatClampNeg = 0
    · have pe := rowp_eqo1 (v := g 11 (FX12_local t (g 5 i.toNatClampNeg) g).toNatClampNeg) R I (sl_lto1 (a := g 4 i.toNatClampNeg) (g := g) ht) c1
      rw [if_pos c1, if_pos c2]
      by_cases c3 : FX12_isIn (g 11 (FX12_local t (g 5 i.toNatClampNeg) g).toNatClampNeg).toInt64 0 ((g 18 (g 11 (FX12_local t (g 4 i.toNatClampNeg) g).toNatClampNeg).toNatClampNeg) - 1).toInt64 = 0
      · rw [if_pos (pe.mpr c3), ins_f (w := 4) (by rw [o]; decide) (by rw [o]; unfold FX12_why; simp (decide := true) only [c1, c2, c3, ↓reduceIte]) (by decide)]
        exact fin_failo1 R S (by decide) (by decide)
      · rw [if_neg (fun w => c3 (pe.mp w)), ins_9 o c1 c2 c3]
        obtain ⟨v1, v2⟩ := rowp_in I c3
        obtain ⟨a1, a2, a3⟩ := refso1 R (sl_lto1 (a := g 4 i.toNatClampNeg) (g := g) ht) (fun w => absurd (w.symm.trans c1) (by decide))
        have tn := th_nn I
        have xi : iv 0 11 (g 11 (FX12_local t (g 4 i.toNatClampNeg) g).toNatClampNeg) := ⟨by omega, by omega⟩
        have rw1 := (R.2.2.2.1.2 _ a2).2.2.2 _ v2
        rw [Int32.mul_comm (g 11 (FX12_local t (g 4 i.toNatClampNeg) g).toNatClampNeg) 16, Int32.mul_comm (g 11 (FX12_local t (g 4 i.toNatClampNeg) g).toNatClampNeg) 20, rp_ix xi v1, rw1]
        obtain ⟨s1, s2, s3, s4, s5, s6, s7⟩ := S
        refine fin_goo1 (((R.rso1 (i := 25) (v := 0) rfl).cso1 (by decide)).rso1 rfl |>.sloto1 (Or.inl rfl)) ?_ (by simp [hs_get]) (by
          refine ⟨Or.inr ?_, Or.inl ?_⟩
          · rw [hs_o (by simp), hs_o (by simp), hs_self]
            exact pl_row xi v1
          · rw [hs_o (by simp), hs_o (by simp), hs_o (by simp), hs_o (by simp)]
            exact s6) ?_
        · simp [EFo1, hs_get, s2, s3, s4, s5, s6, s7]
        · simp [hs_get, s1, e18]
    · rw [if_pos c1, if_neg c2, ins_f (w := 1) (by rw [o]; decide) (by rw [o]; unfold FX12_why FX12_why_196; simp (decide := true) only [c1, c2, ↓reduceIte]) (by decide)]
      exact fin_failo1 R S (by decide) (by decide)
  · rw [if_neg c1, ins_f (w := 1) (by rw [o]; decide) (by rw [o]; unfold FX12_why FX12_why_196; simp (decide := true) only [c1, ↓reduceIte]) (by decide)]
    exact fin_failo1 R S (by decide) (by decide)
theorem op_10o1 {z : zT} {h g : ph_H} {t : Int32} (R : RCo1 h g) (I : IM z g) (ht : iv 0 3 t) (S : S0co1 t h g) (e18 : h 28 t.toNatClampNeg = g 12 t.toNatClampNeg) {i : Int32} (q0 : h 3 (FX5_firstPart_n t (h 28 t.toNatClampNeg) h).toNatClampNeg = g 2 i.toNatClampNeg) (q1 : h 3 ((FX5_firstPart_n t (h 28 t.toNatClampNeg) h) + 1).toNatClampNeg = g 3 i.toNatClampNeg) (q2 : h 3 ((FX5_firstPart_n t (h 28 t.toNatClampNeg) h) + 2).toNatClampNeg = g 4 i.toNatClampNeg) (q3 : h 3 ((FX5_firstPart_n t (h 28 t.toNatClampNeg) h) + 3).toNatClampNeg = g 5 i.toNatClampNeg) (o : g 2 i.toNatClampNeg = 10) : SIMo1 t (FX3_perform_oc1 t h) (FX12_instruct t i g) := by
  rw [pf_10o1 (q0.trans o) q1 q2 q3, slot_eq t _ g, slot_eq t _ g, slot_eq t _ g]
  unfold FX3_writeRow_oc1 FX3_bothNumbers_oc1
  obtain ⟨a1, a2⟩ := R.1 _ (sl_lto1 (a := g 3 i.toNatClampNeg) (g := g) ht)
  obtain ⟨b1, b2⟩ := R.1 _ (sl_lto1 (a := g 4 i.toNatClampNeg) (g := g) ht)
  obtain ⟨d1, d2⟩ := R.1 _ (sl_lto1 (a := g 5 i.toNatClampNeg) (g := g) ht)
  rw [a1, a2, b1, b2, d1, d2]
  by_cases c1 : g 10 (FX12_local t (g 3 i.toNatClampNeg) g).toNatClampNeg = 1
  · by_cases c2 : g 10 (FX12_local t (g 4 i.toNatClampNeg) g).toNatClampNeg = 0
    · by_cases c3 : g 10 (FX12_local t (g 5 i.toNatClampNeg) g).toNatClampNeg = 0
      · have pe := rowp_eqo1 (v := g 11 (FX12_local t (g 4 i.toNatClampNeg) g).toNatClampNeg) R I (sl_lto1 (a := g 3 i.toNatClampNeg) (g := g) ht) c1
        simp (decide := true) only [c1, c2, c3, ↓reduceIte]
        by_cases c4 : FX12_isIn (g 11 (FX12_local t (g 4 i.toNatClampNeg) g).toNatClampNeg).toInt64 0 ((g 18 (g 11 (FX12_local t (g 3 i.toNatClampNeg) g).toNatClampNeg).toNatClampNeg) - 1).toInt64 = 0
        · rw [if_pos (pe.mpr c4), ins_f (w := 4) (by rw [o]; decide) (by rw [o]; unfold FX12_why; simp (decide := true) only [c1, c2, c3, c4, ↓reduceIte]) (by decide)]
          exact fin_failo1 R S (by decide) (by decide)
        · rw [if_neg (fun w => c4 (pe.mp w)), ins_10 o c1 c2 c3 c4]
          rw [Int32.mul_comm (g 11 (FX12_local t (g 3 i.toNatClampNeg) g).toNatClampNeg) 16, Int32.mul_comm (g 11 (FX12_local t (g 3 i.toNatClampNeg) g).toNatClampNeg) 20]
          obtain ⟨s1, s2, s3, s4, s5, s6, s7⟩ := S
          refine fin_goo1 (((R.rso1 (i := 25) (v := 0) rfl).cso1 (by decide)).rso1 rfl |>.rowo1) ?_ (by simp [hs_get]) (by
            obtain ⟨v1, v2⟩ := rowp_in I c4
            obtain ⟨r1, r2, r3⟩ := refso1 R (sl_lto1 (a := g 3 i.toNatClampNeg) (g := g) ht) (fun w => absurd (w.symm.trans c1) (by decide))
            have tn := th_nn I
            have xi : iv 0 11 (g 11 (FX12_local t (g 3 i.toNatClampNeg) g).toNatClampNeg) := ⟨by omega, by omega⟩
            refine ⟨Or.inl ?_, Or.inr ?_⟩
            · rw [hs_o (by simp), hs_o (by simp), hs_o (by simp)]
              exact s5
            · rw [hs_o (by simp), hs_self]
              exact pl_row xi v1) ?_
          · simp [EFo1, hs_get, s2, s3, s4, s5, s6, s7]
          · simp [hs_get, s1, e18]
      · simp (decide := true) only [c1, c2, c3, ↓reduceIte]
        rw [ins_f (w := 1) (by rw [o]; decide) (by rw [o]; unfold FX12_why FX12_why_266; simp (decide := true) only [c1, c2, c3, ↓reduceIte]) (by decide)]
        exact fin_failo1 R S (by decide) (by decide)
    · simp (decide := true) only [c1, c2, ↓reduceIte]
      rw [ins_f (w := 1) (by rw [o]; decide) (by rw [o]; unfold FX12_why FX12_why_266; simp (decide := true) only [c1, c2, ↓reduceIte]) (by decide)]
      exact fin_failo1 R S (by decide) (by decide)
  · simp (decide := true) only [c1, ↓reduceIte]
    rw [ins_f (w := 1) (by rw [o]; decide) (by rw [o]; unfold FX12_why FX12_why_266; simp (decide := true) only [c1, ↓reduceIte]) (by decide)]
    exact fin_failo1 R S (by decide) (by decide)
/-! new THINGS -/
theorem mr44o1 : ∀ (q : Nat) (x1 x3 x4 : Int32) (h : ph_H), iv 0 11 (h 25 10) → iv 0 16 x3 → 0 ≤ x4.toInt → x4.toInt ≤ x3.toInt → x3.toInt - x4.toInt < (q : Int) → ∃ h', FX3_makeRow_oc1_44 q x1 x3 x4 h = FX3_makeThing_oc1 x1 1 x3 h' ∧ (∀ p i, ¬ p = 34 → h' p i = h p i) ∧ (∀ j : Nat, x4.toInt ≤ j → (j : Int) < x3.toInt → h' 34 (16 * (h 25 10).toNatClampNeg + j) = 0) ∧ (∀ i : Nat, (i : Int) < 16 * (h 25 10).toInt + x4.toInt → h' 34 i = h 34 i)
  | 0, x1, x3, x4, h, f3, f4, m0, m1, m => by omega
  | q + 1, x1, x3, x4, h, f3, f4, m0, m1, m => by
    have k1 : (1 : Int32).toInt = 1 := by decide
    have k16 : (16 : Int32).toInt = 16 := by decide
    have n3 := iv_nat f3 rfl
    have f3' := f3
    unfold iv at f3 f4
    unfold FX3_makeRow_oc1_44
    by_cases c : x3 ≤ x4
    · rw [if_pos c]
      rw [Int32.le_iff_toInt_le] at c
      exact ⟨h, rfl, fun _ _ _ => rfl, fun j a b => by omega, fun _ _ => rfl⟩
    · rw [if_neg c]
      rw [Int32.le_iff_toInt_le] at c
      have e4 : (x4 + 1).toInt = x4.toInt + 1 := by rw [ti_add (by omega) (by omega), k1]
      have em : (h 25 10 * 16).toInt = 16 * (h 25 10).toInt := by rw [ti_mul (by rw [k16]; omega) (by rw [k16]; omega), k16]; omega
      have ea : (h 25 10 * 16 + x4).toInt = 16 * (h 25 10).toInt + x4.toInt := by rw [ti_add (by omega) (by omega), em]
      have ix : ((h 25 10 * 16 + x4).toNatClampNeg : Int) = 16 * (h 25 10).toInt + x4.toInt := by
        rw [← Int32.toNat_toInt]
        omega
      have hk : hs h 34 (h 25 10 * 16 + x4).toNatClampNeg 0 25 10 = h 25 10 := hs_o (by simp)
      obtain ⟨h', a1, a2, a3, a4⟩ := mr44o1 q x1 x3 (x4 + 1) (hs h 34 (h 25 10 * 16 + x4).toNatClampNeg 0) (by rw [hk]; exact f3') f4 (by omega) (by omega) (by omega)
      rw [hk] at a3 a4
      refine ⟨h', a1, fun p i hp => ?_, fun j hj hk2 => ?_, fun i hi => ?_⟩
      · rw [a2 p i hp, hs_o (fun w => hp w.1)]
      · by_cases d : (j : Int) = x4.toInt
        · rw [a4 _ (by omega), hs_get, if_pos rfl, if_pos (by omega)]
        · exact a3 j (by omega) hk2
      · rw [a4 i (by omega), hs_o (fun w => by omega)]
theorem new_simo1 {z : zT} {h h' g : ph_H} {kd sz slot : Int32} (R : RCo1 h g) (I : IM z g) (hl : (g 0 18).toInt < 12) (hz : sz.toInt ≤ 16) (hf : ∀ p i, ¬ p = 34 → h' p i = h p i) (hr : ∀ i : Nat, (i : Int) < 16 * (g 0 18).toInt → h' 34 i = h 34 i) (h0 : ∀ j : Nat, (j : Int) < sz.toInt → h' 34 (16 * (g 0 18).toNatClampNeg + j) = 0) :
    RCo1 (FX3_makeThing_oc1 slot kd sz h').2 (hs (hs (FX12_newThing kd sz g).2 10 slot.toNatClampNeg kd) 11 slot.toNatClampNeg (g 0 18)) := by
  have tn := th_nn I
  have k1 : (1 : Int32).toInt = 1 := by decide
  obtain ⟨g', a1, a2, a3, a4⟩ := nt_eq (k := kd) (n := sz) I hl
  have R1 := (R.rowco1 I hf hr).rowro1 I a2 a4
  have e0 : g' 0 18 = g 0 18 := a2 0 18 (by decide)
  have e1 : h' 25 10 = g 0 18 := by rw [hf _ _ (by decide)]; exact R.2.2.2.1.1
  have I1 : IVm g' := fun k i => by
    by_cases c : k = 19
    · subst c
      exact iv_any _
    · rw [a2 k i c]
      exact I.1 k i
  have I2 : IM z g' := ⟨I1, fun i => by rw [a2 10 i (by decide), a2 11 i (by decide)]; exact I.2.1 i, fun k i q => by
    by_cases c : k = 19
    · subst c
      rw [show gz 19 i = false from rfl] at q
      exact absurd q (by decide)
    · rw [a2 k i c]
      exact I.2.2 k i q⟩
  have R2 := R1.newo1 (kd := kd) (sz := sz) I2 (by rw [e0]; exact hl) (fun i hi => by
    rw [e0, h0 i hi]
    exact (a3 i (by omega)).symm)
  rw [e0] at R2
  rw [a1]
  unfold FX3_makeThing_oc1
  rw [e1]
  refine R2.sloto1 (Or.inr ⟨tn.1, ?_, ?_⟩)
  · rw [hs_self, ti_add (by omega) (by omega), k1]
    omega
  · rw [hs_o (by simp), hs_o (by simp), hs_o (by simp), hs_self]
theorem op_8o1 {z : zT} {h g : ph_H} {t : Int32} (R : RCo1 h g) (I : IM z g) (ht : iv 0 3 t) (S : S0co1 t h g) (e18 : h 28 t.toNatClampNeg = g 12 t.toNatClampNeg) {i : Int32} (q0 : h 3 (FX5_firstPart_n t (h 28 t.toNatClampNeg) h).toNatClampNeg = g 2 i.toNatClampNeg) (q1 : h 3 ((FX5_firstPart_n t (h 28 t.toNatClampNeg) h) + 1).toNatClampNeg = g 3 i.toNatClampNeg) (q2 : h 3 ((FX5_firstPart_n t (h 28 t.toNatClampNeg) h) + 2).toNatClampNeg = g 4 i.toNatClampNeg) (q3 : h 3 ((FX5_firstPart_n t (h 28 t.toNatClampNeg) h) + 3).toNatClampNeg = g 5 i.toNatClampNeg) (o : g 2 i.toNatClampNeg = 8) : SIMo1 t (FX3_perform_oc1 t h) (FX12_instruct t i g) := by
  rw [pf_8o1 (q0.trans o) q1 q2 q3, slot_eq t _ g, slot_eq t _ g]
  unfold FX3_makeRow_oc1
  obtain ⟨b1, b2⟩ := R.1 _ (sl_lto1 (a := g 4 i.toNatClampNeg) (g := g) ht)
  have e10 := R.2.2.2.1.1
  rw [b1, b2, e10]
  by_cases c1 : g 10 (FX12_local t (g 4 i.toNatClampNeg) g).toNatClampNeg = 0
  · by_cases c2 : 0 ≤ g 11 (FX12_local t (g 4 i.toNatClampNeg) g).toNatClampNeg
    · by_cases c3 : 16 < g 11 (FX12_local t (g 4 i.toNatClampNeg) g).toNatClampNeg
      · simp (decide := true) only [c1, c2, c3, ↓reduceIte]
        rw [ins_f (w := 3) (by rw [o]; decide) (by rw [o]; unfold FX12_why FX12_why_169; simp (decide := true) only [c1, c2, c3, ↓reduceIte]) (by decide)]
        exact fin_failo1 R S (by decide) (by decide)
      · by_cases c4 : g 0 18 = 12
        · have c5 : ¬ g 0 18 < 12 := fun w => (th12 I).mp w c4
          simp only [c1, c2, c3, c5, ↓reduceIte]
          rw [ins_f (w := 3) (by rw [o]; decide) (by rw [o]; unfold FX12_why FX12_why_169; simp (decide := true) only [c1, c2, c3, c4, ↓reduceIte]) (by decide)]
          exact fin_failo1 R S (by decide) (by decide)
        · have c5 : g 0 18 < 12 := (th12 I).mpr c4
          have hl : (g 0 18).toInt < 12 := by
            rw [Int32.lt_iff_toInt_lt] at c5
            exact c5
          simp only [c1, c2, c3, c5, ↓reduceIte]
          rw [ins_8 I hl o c1 c2 c3 c4]
          have k0 : (0 : Int32).toInt = 0 := by decide
          have k16 : (16 : Int32).toInt = 16 := by decide
          have tn := th_nn I
          have c2i := c2
          have c3i := c3
          rw [Int32.le_iff_toInt_le, k0] at c2i
          rw [Int32.lt_iff_toInt_lt, k16] at c3i
          obtain ⟨h', m1, m2, m3, m4⟩ := mr44o1 2000 (FX12_local t (g 3 i.toNatClampNeg) g) (g 11 (FX12_local t (g 4 i.toNatClampNeg) g).toNatClampNeg) 0 h (by rw [e10]; exact ⟨tn.1, by omega⟩) ⟨c2i, by omega⟩ (by decide) (by omega) (by omega)
          rw [m1]
          rw [e10] at m3 m4
          have I1 : IM z (hs g 0 25 0) := IMs I (iv_any _) rfl
          have hl1 : (hs g 0 25 0 0 18).toInt < 12 := by rw [hs_o (by simp)]; exact hl
          have N := new_simo1 (kd := 1) (sz := g 11 (FX12_local t (g 4 i.toNatClampNeg) g).toNatClampNeg) (slot := (FX12_local t (g 3 i.toNatClampNeg) g)) (R.rso1 (i := 25) (v := 0) rfl) I1 hl1 (by omega) m2 (fun i hi => m4 i (by rw [hs_o (by simp)] at hi; omega)) (fun j hj => by rw [hs_o (by simp)]; exact m3 j (by omega) hj)
          rw [hs_o (by simp)] at N
          obtain ⟨s1, s2, s3, s4, s5, s6, s7⟩ := S
          have F : ∀ j, 12 < j → (FX3_makeThing_oc1 (FX12_local t (g 3 i.toNatClampNeg) g) 1 (g 11 (FX12_local t (g 4 i.toNatClampNeg) g).toNatClampNeg) h').2 25 j = h 25 j := fun j hj => by
            unfold FX3_makeThing_oc1
            have : ¬ j = 10 := by omega
            simp [hs_get, this, m2 25 j (by decide)]
          refine fin_goo1 (X := (FX3_makeThing_oc1 (FX12_local t (g 3 i.toNatClampNeg) g) 1 (g 11 (FX12_local t (g 4 i.toNatClampNeg) g).toNatClampNeg) h').2) N ?_ ?_ (by
            have z29 := nt_0 (k := 1) (n := g 11 (FX12_local t (g 4 i.toNatClampNeg) g).toNatClampNeg) I1 hl1 (j := 29) (by decide)
            have z30 := nt_0 (k := 1) (n := g 11 (FX12_local t (g 4 i.toNatClampNeg) g).toNatClampNeg) I1 hl1 (j := 30) (by decide)
            simp [PLp, hs_get, z29, z30, s5, s6]) ?_
          · have z29 := nt_0 (k := 1) (n := g 11 (FX12_local t (g 4 i.toNatClampNeg) g).toNatClampNeg) I1 hl1 (j := 29) (by decide)
            have z30 := nt_0 (k := 1) (n := g 11 (FX12_local t (g 4 i.toNatClampNeg) g).toNatClampNeg) I1 hl1 (j := 30) (by decide)
            have z31 := nt_0 (k := 1) (n := g 11 (FX12_local t (g 4 i.toNatClampNeg) g).toNatClampNeg) I1 hl1 (j := 31) (by decide)
            simp [EFo1, hs_get, F, z29, z30, z31, s2, s3, s4, s5, s6, s7]
          · have z25 := nt_0 (k := 1) (n := g 11 (FX12_local t (g 4 i.toNatClampNeg) g).toNatClampNeg) I1 hl1 (j := 25) (by decide)
            simp [hs_get, z25]
          · rw [F 13 (by decide), s1, e18]
    · simp (decide := true) only [c1, c2, ↓reduceIte]
      rw [ins_f (w := 2) (by rw [o]; decide) (by rw [o]; unfold FX12_why; simp (decide := true) only [c1, c2, ↓reduceIte]) (by decide)]
      exact fin_failo1 R S (by decide) (by decide)
  · simp (decide := true) only [c1, ↓reduceIte]
    rw [ins_f (w := 1) (by rw [o]; decide) (by rw [o]; unfold FX12_why; simp (decide := true) only [c1, ↓reduceIte]) (by decide)]
    exact fin_failo1 R S (by decide) (by decide)
theorem mklo1 {z : zT} {h g : ph_H} {t i : Int32} {kd : Int32} (R : RCo1 h g) (I : IM z g) (ht : iv 0 3 t) (S : S0co1 t h g) (e18 : h 28 t.toNatClampNeg = g 12 t.toNatClampNeg) (o : g 2 i.toNatClampNeg = 11) (c4 : ¬ g 0 18 = 12) (hk : kd = if (g 4 i.toNatClampNeg - g 4 i.toNatClampNeg / 2 * 2) = 0 then 2 else 3) : SIMo1 t (FX3_makeThing_oc1 (FX12_local t (g 3 i.toNatClampNeg) g) kd 0 h) (FX12_instruct t i g) := by
  have c5 : g 0 18 < 12 := (th12 I).mpr c4
  have hl : (g 0 18).toInt < 12 := by
    rw [Int32.lt_iff_toInt_lt] at c5
    exact c5
  rw [ins_11 I hl o c4 hk]
  have k0 : (0 : Int32).toInt = 0 := by decide
  have I1 : IM z (hs g 0 25 0) := IMs I (iv_any _) rfl
  have hl1 : (hs g 0 25 0 0 18).toInt < 12 := by rw [hs_o (by simp)]; exact hl
  have N := new_simo1 (kd := kd) (sz := 0) (slot := (FX12_local t (g 3 i.toNatClampNeg) g)) (R.rso1 (i := 25) (v := 0) rfl) I1 hl1 (by decide) (fun _ _ _ => rfl) (fun _ _ => rfl) (fun j hj => by omega)
  rw [hs_o (by simp)] at N
  obtain ⟨s1, s2, s3, s4, s5, s6, s7⟩ := S
  have F : ∀ j, 12 < j → (FX3_makeThing_oc1 (FX12_local t (g 3 i.toNatClampNeg) g) kd 0 h).2 25 j = h 25 j := fun j hj => by
    unfold FX3_makeThing_oc1
    have : ¬ j = 10 := by omega
    simp [hs_get, this]
  refine fin_goo1 (X := (FX3_makeThing_oc1 (FX12_local t (g 3 i.toNatClampNeg) g) kd 0 h).2) N ?_ ?_ (by
    have z29 := nt_0 (k := kd) (n := 0) I1 hl1 (j := 29) (by decide)
    have z30 := nt_0 (k := kd) (n := 0) I1 hl1 (j := 30) (by decide)
    simp [PLp, hs_get, z29, z30, s5, s6]) ?_
  · have z29 := nt_0 (k := kd) (n := 0) I1 hl1 (j := 29) (by decide)
    have z30 := nt_0 (k := kd) (n := 0) I1 hl1 (j := 30) (by decide)
    have z31 := nt_0 (k := kd) (n := 0) I1 hl1 (j := 31) (by decide)
    simp [EFo1, hs_get, F, z29, z30, z31, s2, s3, s4, s5, s6, s7]
  · have z25 := nt_0 (k := kd) (n := 0) I1 hl1 (j := 25) (by decide)
    simp [hs_get, z25]
  · rw [F 13 (by decide), s1, e18]
theorem op_11o1 {z : zT} {h g : ph_H} {t : Int32} (R : RCo1 h g) (I : IM z g) (ht : iv 0 3 t) (S : S0co1 t h g) (e18 : h 28 t.toNatClampNeg = g 12 t.toNatClampNeg) {i : Int32} (q0 : h 3 (FX5_firstPart_n t (h 28 t.toNatClampNeg) h).toNatClampNeg = g 2 i.toNatClampNeg) (q1 : h 3 ((FX5_firstPart_n t (h 28 t.toNatClampNeg) h) + 1).toNatClampNeg = g 3 i.toNatClampNeg) (q2 : h 3 ((FX5_firstPart_n t (h 28 t.toNatClampNeg) h) + 2).toNatClampNeg = g 4 i.toNatClampNeg) (q3 : h 3 ((FX5_firstPart_n t (h 28 t.toNatClampNeg) h) + 3).toNatClampNeg = g 5 i.toNatClampNeg) (o : g 2 i.toNatClampNeg = 11) : SIMo1 t (FX3_perform_oc1 t h) (FX12_instruct t i g) := by
  rw [pf_11o1 (q0.trans o) q1 q2 q3, slot_eq t _ g]
  unfold FX3_makeLock_oc1 FX3_makeLock_oc1_22
  have e10 := R.2.2.2.1.1
  rw [e10]
  by_cases c4 : g 0 18 = 12
  · have c5 : ¬ g 0 18 < 12 := fun w => (th12 I).mp w c4
    rw [ins_f (w := 3) (by rw [o]; decide) (by rw [o]; unfold FX12_why; simp (decide := true) only [c4, ↓reduceIte]) (by decide)]
    simp only [c5, ↓reduceIte, ite_self]
    exact fin_failo1 R S (by decide) (by decide)
  · have c5 : g 0 18 < 12 := (th12 I).mpr c4
    by_cases b : (g 4 i.toNatClampNeg &&& 1) = 0
    · simp (decide := true) only [b, c5, ↓reduceIte]
      exact mklo1 R I ht S e18 o c4 (by rw [if_pos ((and1_even _).mp b)])
    · simp (decide := true) only [b, c5, ↓reduceIte]
      exact mklo1 R I ht S e18 o c4 (by rw [if_neg (fun w => b ((and1_even _).mpr w))])
/-! WORD -/
theorem wk28o1 {z : zT} {a : Int32} : ∀ (q : Nat) (x : Int32) (h g : ph_H), RCo1 h g → IM z g → 0 ≤ (g 11 a.toNatClampNeg).toInt → iv 0 4 x → 4 - x.toInt < (q : Int) → ∃ h', FX3_wakeSleepers_oc1_28 q (g 11 a.toNatClampNeg) x h = (0, hs h' 25 16 3) ∧ RCo1 h' (FX12_work_391 q a x g) ∧ (∀ p i, ¬ p = 29 → h' p i = h p i)
  | 0, x, h, g, R, I, n, f, m => by unfold iv at f; omega
  | q + 1, x, h, g, R, I, n, f, m => by
    have k1 : (1 : Int32).toInt = 1 := by decide
    have k4 : (4 : Int32).toInt = 4 := by decide
    have xn := iv_nat f rfl
    unfold iv at f
    unfold FX3_wakeSleepers_oc1_28 FX3_wakeSleepers_oc1_64 FX12_work_391 FX12_work_435
    by_cases c : 4 ≤ x
    · rw [if_pos c, if_pos c]
      exact ⟨h, rfl, R, fun _ _ _ => rfl⟩
    · rw [if_neg c, if_neg c]
      rw [Int32.le_iff_toInt_le, k4] at c
      have e4 : (x + 1).toInt = x.toInt + 1 := by rw [ti_add (by omega) (by omega), k1]
      have hx : x.toNatClampNeg < 4 := by omega
      have md := R.2.2.1 _ hx
      by_cases d : g 14 x.toNatClampNeg = g 11 a.toNatClampNeg
      · rw [if_pos d]
        have m2 : h 29 x.toNatClampNeg = 2 ∧ h 30 x.toNatClampNeg = g 11 a.toNatClampNeg := by
          have n1 : (-1 : Int32).toInt = -1 := by decide
          rcases md with ⟨_, _, w, _⟩ | ⟨_, _, w, _⟩ | ⟨m, _, w, _, _⟩ | ⟨_, _, w, _⟩
          · rw [← d, w] at n; omega
          · rw [← d, w] at n; omega
          · exact ⟨m, w.symm.trans d⟩
          · rw [← d, w] at n; omega
        rw [if_pos m2.1, if_pos m2.2]
        have R1 := R.wakeo1 I hx m2.1
        have e11 : hs (hs g 15 x.toNatClampNeg (g 14 x.toNatClampNeg)) 14 x.toNatClampNeg (-1) 11 a.toNatClampNeg = g 11 a.toNatClampNeg := by rw [hs_o (by simp), hs_o (by simp)]
        have I1 : IM z (hs (hs g 15 x.toNatClampNeg (g 14 x.toNatClampNeg)) 14 x.toNatClampNeg (-1)) := IMs (IMs I (k := 15) (i := x.toNatClampNeg) (IMv I 14 x.toNatClampNeg) rfl) (k := 14) (i := x.toNatClampNeg) (show iv (-1) 11 (-1) from ⟨by decide, by decide⟩) rfl
        obtain ⟨h', b1, b2, b3⟩ := wk28o1 q (x + 1) _ _ R1 I1 (by rw [e11]; exact n) (by unfold iv; omega) (by omega)
        rw [e11] at b1
        exact ⟨h', b1, b2, fun p i hp => by rw [b3 p i hp, hs_o (fun w => hp w.1)]⟩
      · rw [if_neg d]
        have : (if h 29 x.toNatClampNeg = 2 then (if h 30 x.toNatClampNeg = g 11 a.toNatClampNeg then FX3_wakeSleepers_oc1_28 q (g 11 a.toNatClampNeg) (x + 1) (hs h 29 x.toNatClampNeg 3) else FX3_wakeSleepers_oc1_28 q (g 11 a.toNatClampNeg) (x + 1) h) else FX3_wakeSleepers_oc1_28 q (g 11 a.toNatClampNeg) (x + 1) h) = FX3_wakeSleepers_oc1_28 q (g 11 a.toNatClampNeg) (x + 1) h := by
          by_cases u : h 29 x.toNatClampNeg = 2
          · have w := MD2 md u
            rw [if_pos u, if_neg (fun v => d (w.2.1.trans v))]
          · rw [if_neg u]
        rw [this]
        exact wk28o1 q (x + 1) h g R I n (by unfold iv; omega) (by omega)
theorem op_15o1 {z : zT} {h g : ph_H} {t : Int32} (R : RCo1 h g) (I : IM z g) (ht : iv 0 3 t) (S : S0co1 t h g) (e18 : h 28 t.toNatClampNeg = g 12 t.toNatClampNeg) {i : Int32} (q0 : h 3 (FX5_firstPart_n t (h 28 t.toNatClampNeg) h).toNatClampNeg = g 2 i.toNatClampNeg) (q1 : h 3 ((FX5_firstPart_n t (h 28 t.toNatClampNeg) h) + 1).toNatClampNeg = g 3 i.toNatClampNeg) (q2 : h 3 ((FX5_firstPart_n t (h 28 t.toNatClampNeg) h) + 2).toNatClampNeg = g 4 i.toNatClampNeg) (q3 : h 3 ((FX5_firstPart_n t (h 28 t.toNatClampNeg) h) + 3).toNatClampNeg = g 5 i.toNatClampNeg) (o : g 2 i.toNatClampNeg = 15) : SIMo1 t (FX3_perform_oc1 t h) (FX12_instruct t i g) := by
  rw [pf_15o1 (q0.trans o) q1 q2 q3, slot_eq t _ g]
  unfold FX3_wakeSleepers_oc1
  rw [gate_eqo1 R (sl_lto1 ht)]
  by_cases l : g 10 (FX12_local t (g 3 i.toNatClampNeg) g).toNatClampNeg = 3
  · have l0 : ¬ g 10 (FX12_local t (g 3 i.toNatClampNeg) g).toNatClampNeg = 0 := fun w => absurd (w.symm.trans l) (by decide)
    have lo := own_ato1 R (sl_lto1 ht) l0
    obtain ⟨a, b, c⟩ := refso1 R (sl_lto1 ht) l0
    have nn := nn_le (x := g 11 (FX12_local t (g 3 i.toNatClampNeg) g).toNatClampNeg) (by omega)
    simp (decide := true) only [l, nn, ↓reduceIte]
    by_cases u : g 17 (g 11 (FX12_local t (g 3 i.toNatClampNeg) g).toNatClampNeg).toNatClampNeg = t
    · rw [if_pos ((OW_own lo ht).mpr u), ins_15 o l u]
      have I1 : IM z (hs (hs (hs g 0 25 0) 0 31 3) 0 32 (g 11 (FX12_local t (g 3 i.toNatClampNeg) g).toNatClampNeg)) := IMs (IMs (IMs I (k := 0) (i := 25) (iv_any _) rfl) (k := 0) (i := 31) (iv_any _) rfl) (k := 0) (i := 32) (iv_any _) rfl
      have e11 : hs (hs (hs g 0 25 0) 0 31 3) 0 32 (g 11 (FX12_local t (g 3 i.toNatClampNeg) g).toNatClampNeg) 11 (FX12_local t (g 3 i.toNatClampNeg) g).toNatClampNeg = g 11 (FX12_local t (g 3 i.toNatClampNeg) g).toNatClampNeg := by rw [hs_o (by simp), hs_o (by simp), hs_o (by simp)]
      obtain ⟨h', b1, b2, b3⟩ := wk28o1 (z := z) (a := (FX12_local t (g 3 i.toNatClampNeg) g)) 2000 0 h (hs (hs (hs g 0 25 0) 0 31 3) 0 32 (g 11 (FX12_local t (g 3 i.toNatClampNeg) g).toNatClampNeg)) (((R.rso1 rfl).rso1 rfl).rso1 rfl) I1 (by rw [e11]; omega) ⟨by decide, by decide⟩ (by decide)
      rw [e11] at b1
      rw [b1]
      obtain ⟨s1, s2, s3, s4, s5, s6, s7⟩ := S
      have W : ∀ j, FX12_work_391 2000 (FX12_local t (g 3 i.toNatClampNeg) g) 0 (hs (hs (hs g 0 25 0) 0 31 3) 0 32 (g 11 (FX12_local t (g 3 i.toNatClampNeg) g).toNatClampNeg)) 0 j = hs (hs (hs g 0 25 0) 0 31 3) 0 32 (g 11 (FX12_local t (g 3 i.toNatClampNeg) g).toNatClampNeg) 0 j := fun j => w391_o _ _ _ _ _ _ (by decide) (by decide)
      have F : ∀ j, h' 25 j = h 25 j := fun j => b3 25 j (by decide)
      refine fin_goo1 (b2.cso1 (by decide)) ?_ ?_ (by simp [PLp, W, hs_get, s5, s6]) ?_
      · simp [EFo1, W, F, hs_get, s2, s3, s4, s5, s6, s7]
      · simp [W, hs_get]
      · simp [hs_get, F, s1, e18]
    · rw [ins_f (w := 6) (by rw [o]; decide) (by rw [o]; unfold FX12_why; simp (decide := true) only [l, u, ↓reduceIte]) (by decide), if_neg (fun w => u ((OW_own lo ht).mp w))]
      exact fin_failo1 R S (by decide) (by decide)
  · rw [ins_f (w := 1) (by rw [o]; decide) (by rw [o]; unfold FX12_why; simp (decide := true) only [l, ↓reduceIte]) (by decide)]
    simp (decide := true) only [l, le_n1, ↓reduceIte]
    exact fin_failo1 R S (by decide) (by decide)
end MG_48_x24A7o1
section MG_48_x25A8o1
/-! ONE STEP on both sides -/
def cMo1 (k i : Nat) : Bool := match k with
  | 25 => i == 10 || i == 11 || i == 12
  | 26 => true
  | 27 => true
  | 28 => true
  | 29 => true
  | 30 => true
  | 31 => true
  | 32 => true
  | 33 => true
  | 34 => true
  | 2 => true
  | 3 => true
  | 5 => true
  | _ => false
theorem RCo1.congro1 {h h' g g' : ph_H} (R : RCo1 h g) (hc : ∀ k i, cMo1 k i = true → h' k i = h k i) (hr : ∀ k i, rM k i = true → g' k i = g k i) (h36 : ¬ g 0 33 = 0 → ∀ i, g' 36 i = g 36 i) : RCo1 h' g' := by
  obtain ⟨r1, r2, r3, r4, r5, r6, r7⟩ := R
  have c16 : ∀ i, h' 26 i = h 26 i := fun i => hc _ _ rfl
  have c17 : ∀ i, h' 27 i = h 27 i := fun i => hc _ _ rfl
  have c18 : ∀ i, h' 28 i = h 28 i := fun i => hc _ _ rfl
  have c19 : ∀ i, h' 29 i = h 29 i := fun i => hc _ _ rfl
  have c20 : ∀ i, h' 30 i = h 30 i := fun i => hc _ _ rfl
  have c21 : ∀ i, h' 31 i = h 31 i := fun i => hc _ _ rfl
  have c22 : ∀ i, h' 32 i = h 32 i := fun i => hc _ _ rfl
  have c23 : ∀ i, h' 33 i = h 33 i := fun i => hc _ _ rfl
  have c24 : ∀ i, h' 34 i = h 34 i := fun i => hc _ _ rfl
  have c9 : ∀ i, h' 2 i = h 2 i := fun i => hc _ _ rfl
  have cp : ∀ i, h' 3 i = h 3 i := fun i => hc _ _ rfl
  have c12 : ∀ i, h' 5 i = h 5 i := fun i => hc _ _ rfl
  have f10 : h' 25 10 = h 25 10 := hc _ _ rfl
  have f11 : h' 25 11 = h 25 11 := hc _ _ rfl
  have f12 : h' 25 12 = h 25 12 := hc _ _ rfl
  have g1 : ∀ i, g' 1 i = g 1 i := fun i => hr _ _ rfl
  have g2 : ∀ i, g' 2 i = g 2 i := fun i => hr _ _ rfl
  have g3 : ∀ i, g' 3 i = g 3 i := fun i => hr _ _ rfl
  have g4 : ∀ i, g' 4 i = g 4 i := fun i => hr _ _ rfl
  have g5 : ∀ i, g' 5 i = g 5 i := fun i => hr _ _ rfl
  have g7 : ∀ i, g' 7 i = g 7 i := fun i => hr _ _ rfl
  have g10 : ∀ i, g' 10 i = g 10 i := fun i => hr _ _ rfl
  have g11 : ∀ i, g' 11 i = g 11 i := fun i => hr _ _ rfl
  have g12 : ∀ i, g' 12 i = g 12 i := fun i => hr _ _ rfl
  have g13 : ∀ i, g' 13 i = g 13 i := fun i => hr _ _ rfl
  have g14 : ∀ i, g' 14 i = g 14 i := fun i => hr _ _ rfl
  have g15 : ∀ i, g' 15 i = g 15 i := fun i => hr _ _ rfl
  have g16 : ∀ i, g' 16 i = g 16 i := fun i => hr _ _ rfl
  have g17 : ∀ i, g' 17 i = g 17 i := fun i => hr _ _ rfl
  have g18 : ∀ i, g' 18 i = g 18 i := fun i => hr _ _ rfl
  have g19 : ∀ i, g' 19 i = g 19 i := fun i => hr _ _ rfl
  have e7 : g' 0 7 = g 0 7 := hr _ _ rfl
  have e18 : g' 0 18 = g 0 18 := hr _ _ rfl
  have e23 : g' 0 23 = g 0 23 := hr _ _ rfl
  have e33 : g' 0 33 = g 0 33 := hr _ _ rfl
  have e34 : g' 0 34 = g 0 34 := hr _ _ rfl
  have ek : kn g' = kn g := by unfold kn; rw [e7, e33, e34]
  have ev : ∀ k, vi g' k = vi g k := fun k => by
    unfold vi
    rw [e33, g7]
    by_cases c : g 0 33 = 0
    · rw [if_pos c, if_pos c]
    · rw [if_neg c, if_neg c, h36 c]
  refine ⟨?_, ?_, ?_, ?_, ?_, ?_, ?_⟩
  · simpa only [Rslo1, c16, c17, g10, g11] using r1
  · simpa only [Rato1, c18, g1, g12] using r2
  · simpa only [Rmdo1, c19, c20, g13, g14, g15] using r3
  · simpa only [Rtho1, f10, c21, c22, c23, c24, e18, g16, g17, g18, g19] using r4
  · simpa only [Rino1, f11, f12, c12, e23, ek, ev] using r5
  · simpa only [Rpro1, c9, cp, g1, g2, g3, g4, g5] using r6
  · simpa only [LV, g2, g10, g11, g14, g15, g16, e18] using r7
theorem op_allo1 {z : zT} {h g : ph_H} {t : Int32} (R : RCo1 h g) (I : IM z g) (ht : iv 0 3 t) (S : S0co1 t h g) (e12 : ¬ g 12 t.toNatClampNeg = 24) (m1 : h 29 t.toNatClampNeg = 1) (kk : g 2 ((24 * t) + g 12 t.toNatClampNeg).toNatClampNeg = 16 → ¬ g 0 33 = 0 → ¬ g 0 23 = g 0 34) : SIMo1 t (FX3_perform_oc1 t h) (FX12_instruct t ((24 * t) + g 12 t.toNatClampNeg) g) := by
  obtain ⟨p0, p1, p2, p3⟩ := partso1 R I ht e12
  have e18 := (standso1 R I ht e12).1
  have ob : iv 0 19 (g 2 ((24 * t) + g 12 t.toNatClampNeg).toNatClampNeg) := R.2.2.2.2.2.2.2.2 _
  generalize hi : (24 * t) + g 12 t.toNatClampNeg = i at *
  have hx : g 2 i.toNatClampNeg = 0 ∨ g 2 i.toNatClampNeg = 1 ∨ g 2 i.toNatClampNeg = 2 ∨ g 2 i.toNatClampNeg = 3 ∨ g 2 i.toNatClampNeg = 4 ∨ g 2 i.toNatClampNeg = 5 ∨ g 2 i.toNatClampNeg = 6 ∨ g 2 i.toNatClampNeg = 7 ∨ g 2 i.toNatClampNeg = 8 ∨ g 2 i.toNatClampNeg = 9 ∨ g 2 i.toNatClampNeg = 10 ∨ g 2 i.toNatClampNeg = 11 ∨ g 2 i.toNatClampNeg = 12 ∨ g 2 i.toNatClampNeg = 13 ∨ g 2 i.toNatClampNeg = 14 ∨ g 2 i.toNatClampNeg = 15 ∨ g 2 i.toNatClampNeg = 16 ∨ g 2 i.toNatClampNeg = 17 ∨ g 2 i.toNatClampNeg = 18 ∨ g 2 i.toNatClampNeg = 19 := by
    simp only [← Int32.toInt_inj]
    have k0 : (0 : Int32).toInt = 0 := by decide
    have k1 : (1 : Int32).toInt = 1 := by decide
    have k2 : (2 : Int32).toInt = 2 := by decide
    have k3 : (3 : Int32).toInt = 3 := by decide
    have k4 : (4 : Int32).toInt = 4 := by decide
    have k5 : (5 : Int32).toInt = 5 := by decide
    have k6 : (6 : Int32).toInt = 6 := by decide
    have k7 : (7 : Int32).toInt = 7 := by decide
    have k8 : (8 : Int32).toInt = 8 := by decide
    have k9 : (9 : Int32).toInt = 9 := by decide
    have k10 : (10 : Int32).toInt = 10 := by decide
    have k11 : (11 : Int32).toInt = 11 := by decide
    have k12 : (12 : Int32).toInt = 12 := by decide
    have k13 : (13 : Int32).toInt = 13 := by decide
    have k14 : (14 : Int32).toInt = 14 := by decide
    have k15 : (15 : Int32).toInt = 15 := by decide
    have k16 : (16 : Int32).toInt = 16 := by decide
    have k17 : (17 : Int32).toInt = 17 := by decide
    have k18 : (18 : Int32).toInt = 18 := by decide
    have k19 : (19 : Int32).toInt = 19 := by decide
    unfold iv at ob
    omega
  rcases hx with o | o | o | o | o | o | o | o | o | o | o | o | o | o | o | o | o | o | o | o
  · exact op_0o1 R I ht S e18 p0 p1 p2 p3 o
  · exact op_1o1 R I ht S e18 p0 p1 p2 p3 o
  · exact op_2o1 R I ht S e18 p0 p1 p2 p3 o
  · exact op_3o1 R I ht S e18 p0 p1 p2 p3 o
  · exact op_4o1 R I ht S e18 p0 p1 p2 p3 o
  · exact op_5o1 R I ht S e18 p0 p1 p2 p3 o
  · exact op_6o1 R I ht S e18 p0 p1 p2 p3 o
  · exact op_7o1 R I ht S e18 p0 p1 p2 p3 o
  · exact op_8o1 R I ht S e18 p0 p1 p2 p3 o
  · exact op_9o1 R I ht S e18 p0 p1 p2 p3 o
  · exact op_10o1 R I ht S e18 p0 p1 p2 p3 o
  · exact op_11o1 R I ht S e18 p0 p1 p2 p3 o
  · exact op_12o1 R I ht S e18 p0 p1 p2 p3 o
  · exact op_13o1 R I ht S e18 p0 p1 p2 p3 o
  · exact op_14o1 R I ht S e18 m1 p0 p1 p2 p3 o
  · exact op_15o1 R I ht S e18 p0 p1 p2 p3 o
  · exact op_16o1 R I ht S e18 (kk o) p0 p1 p2 p3 o
  · exact op_17o1 R I ht S e18 p0 p1 p2 p3 o
  · exact op_18o1 R I ht S e18 p0 p1 p2 p3 o
  · exact op_19o1 R I ht S e18 p0 p1 p2 p3 o
/-- does the step ask for an INPUT that isn't known -/
theorem mood_ofo1 {h g : ph_H} {t : Int32} (R : RCo1 h g) (ht : iv 0 3 t) (c : ¬ FX12_canGo t g = 0) : (h 29 t.toNatClampNeg = 1 ∧ g 15 t.toNatClampNeg < 0) ∨ (h 29 t.toNatClampNeg = 3 ∧ ¬ g 15 t.toNatClampNeg < 0 ∧ g 15 t.toNatClampNeg = h 30 t.toNatClampNeg ∧ iv 0 11 (g 15 t.toNatClampNeg)) := by
  obtain ⟨c1, c2, c3⟩ := cg_true c
  rcases R.2.2.1 _ (t_lto1 ht) with ⟨m, st, as, wk⟩ | ⟨m, st, as, wk⟩ | ⟨m, st, as, q, wk⟩ | ⟨m, st, as, wk, q⟩
  · exact absurd st c1
  · exact Or.inl ⟨m, by rw [wk]; decide⟩
  · rw [as] at c3
    unfold iv at q
    exact absurd c3 (nn_t q.1)
  · refine Or.inr ⟨m, ?_, wk, by rw [wk]; exact q⟩
    unfold iv at q
    rw [wk]
    exact nn_t q.1
/-- the step, not asking -/
theorem go_eqo1 {z : zT} {h g : ph_H} {t : Int32} (R : RCo1 h g) (I : IM z g) (ht : iv 0 3 t) (c : ¬ FX12_canGo t g = 0) (nf : g 0 25 = 0) (na : ¬ asksU t g) : (FX3_go_oc1 t h).1 = FX12_step t g 0 25 ∧ RCo1 (FX3_go_oc1 t h).2 (FX12_step t g) ∧ EFo1 (FX3_go_oc1 t h).2 (FX12_step t g) ∧ FL (FX12_step t g) := by
  have c' : ¬ FX3_canGo_oc1 t h = 0 := by rw [canGo_eqo1 R I ht]; exact c
  obtain ⟨c1, c2, c3⟩ := cg_true c
  have e18 := (standso1 R I ht c2).1
  have Rh : RCo1 (hs (hs (hs (hs (hs h 25 14 (-2)) 25 15 (-2)) 25 16 0) 25 17 0) 25 13 (h 28 t.toNatClampNeg + 1)) (hs (hs (hs (hs (hs (hs g 0 27 (g 12 t.toNatClampNeg)) 0 28 (g 2 ((24 * t) + g 12 t.toNatClampNeg).toNatClampNeg)) 0 29 (-2)) 0 30 (-2)) 0 31 0) 0 32 (-1)) := (((((((((((R.cso1 (by decide)).cso1 (by decide)).cso1 (by decide)).cso1 (by decide)).cso1 (by decide)).rso1 rfl).rso1 rfl).rso1 rfl).rso1 rfl).rso1 rfl).rso1 rfl)
  have I0 : IM z (hs (hs (hs (hs (hs (hs g 0 27 (g 12 t.toNatClampNeg)) 0 28 (g 2 ((24 * t) + g 12 t.toNatClampNeg).toNatClampNeg)) 0 29 (-2)) 0 30 (-2)) 0 31 0) 0 32 (-1)) := IMs (IMs (IMs (IMs (IMs (IMs I (k := 0) (i := 27) (iv_any _) rfl) (k := 0) (i := 28) (iv_any _) rfl) (k := 0) (i := 29) (iv_any _) rfl) (k := 0) (i := 30) (iv_any _) rfl) (k := 0) (i := 31) (iv_any _) rfl) (k := 0) (i := 32) (iv_any _) rfl
  unfold FX3_go_oc1 FX3_go_oc1_59
  rw [if_neg c']
  rcases mood_ofo1 R ht c with ⟨m, w⟩ | ⟨m, w, wq, q⟩
  · rw [if_neg (by rw [m]; decide)]
    have st : FX12_step t g = FX12_step_148 t ((24 * t) + g 12 t.toNatClampNeg) (hs (hs (hs (hs (hs (hs g 0 27 (g 12 t.toNatClampNeg)) 0 28 (g 2 ((24 * t) + g 12 t.toNatClampNeg).toNatClampNeg)) 0 29 (-2)) 0 30 (-2)) 0 31 0) 0 32 (-1)) := by
      unfold FX12_step
      rw [if_pos w]
      by_cases o : g 2 ((24 * t) + g 12 t.toNatClampNeg).toNatClampNeg = 16
      · rw [if_pos o]
        by_cases k : g 0 33 = 0
        · rw [if_pos k]
        · rw [if_neg k, if_neg (fun e => na ⟨w, o, k, e⟩)]
      · rw [if_neg o]
    have S : S0co1 t (hs (hs (hs (hs (hs h 25 14 (-2)) 25 15 (-2)) 25 16 0) 25 17 0) 25 13 (h 28 t.toNatClampNeg + 1)) (hs (hs (hs (hs (hs (hs g 0 27 (g 12 t.toNatClampNeg)) 0 28 (g 2 ((24 * t) + g 12 t.toNatClampNeg).toNatClampNeg)) 0 29 (-2)) 0 30 (-2)) 0 31 0) 0 32 (-1)) := by simp [S0co1, hs_get]
    have P := op_allo1 (z := z) (t := t) Rh I0 ht S (by simpa [hs_get] using c2) (by simpa [hs_get] using m) (fun o k e => by
      simp [hs_get] at o k e
      exact na ⟨w, o, k, e⟩)
    have e : (24 * t) + (hs (hs (hs (hs (hs (hs g 0 27 (g 12 t.toNatClampNeg)) 0 28 (g 2 ((24 * t) + g 12 t.toNatClampNeg).toNatClampNeg)) 0 29 (-2)) 0 30 (-2)) 0 31 0) 0 32 (-1)) 12 t.toNatClampNeg = (24 * t) + g 12 t.toNatClampNeg := by simp [hs_get]
    rw [e] at P
    rw [st]
    unfold FX12_step_148 FX12_step_154
    unfold SIMo1 at P
    obtain ⟨pp1, pp2, pp3, pp4⟩ := P
    refine ⟨?_, (pp2.rso1 rfl).rso1 rfl, ?_, ?_⟩
    · rw [pp1]
      simp [hs_get]
    · simpa [EFo1, hs_get] using pp3
    · simpa [FL, PLp, hs_get] using pp4
  · rw [if_pos m]
    have lv := (R.2.2.2.2.2.2.2.1 _ (t_lto1 ht)).2
    have st : FX12_step t g = FX12_step_154 t (FX12_goTo t (g 12 t.toNatClampNeg + 1) (hs (hs (hs (hs (hs (hs (hs (hs (hs (hs g 0 27 (g 12 t.toNatClampNeg)) 0 28 (g 2 ((24 * t) + g 12 t.toNatClampNeg).toNatClampNeg)) 0 29 (-2)) 0 30 (-2)) 0 31 0) 0 32 (-1)) 17 (g 15 t.toNatClampNeg).toNatClampNeg t) 0 31 1) 0 32 (g 15 t.toNatClampNeg)) 15 t.toNatClampNeg (-1))) := by
      unfold FX12_step FX12_step_110
      rw [if_neg w]
    rw [st]
    unfold FX3_rise_oc1 FX3_own_oc1
    have e20 : (hs (hs (hs (hs (hs h 25 14 (-2)) 25 15 (-2)) 25 16 0) 25 17 0) 25 13 (h 28 t.toNatClampNeg + 1)) 30 t.toNatClampNeg = g 15 t.toNatClampNeg := by
      rw [wq]
      simp [hs_get]
    rw [e20]
    have R1 := (Rh.riseo1 I0 (t_lto1 ht) (by simpa [hs_get] using m)).owno1 (x := (g 15 t.toNatClampNeg).toNatClampNeg) (c := t) (r := t) (Or.inr ⟨rfl, ht⟩)
    have R2 := (((R1.cso1 (i := 16) (v := 1) (by decide)).cso1 (i := 17) (v := g 15 t.toNatClampNeg) (by decide)).rso1 (i := 31) (v := 1) rfl).rso1 (i := 32) (v := g 15 t.toNatClampNeg) rfl
    rw [hs_comm _ 15 _ _ 17 _ _ (Or.inl (by decide)), hs_comm _ 15 _ _ 0 _ _ (Or.inl (by decide)), hs_comm _ 15 _ _ 0 _ _ (Or.inl (by decide))] at R2
    have F := fin_goo1 (t := t) (a := g 12 t.toNatClampNeg + 1) R2 (by simp [EFo1, hs_get]) (by simpa [hs_get] using nf) (by simp [PLp, hs_get]) (by simp [hs_get, e18])
    unfold SIMo1 at F
    obtain ⟨pp1, pp2, pp3, pp4⟩ := F
    unfold FX12_step_154
    refine ⟨?_, (pp2.rso1 rfl).rso1 rfl, ?_, ?_⟩
    · rw [pp1]
      simp [hs_get]
    · simpa [EFo1, hs_get] using pp3
    · simpa [FL, PLp, hs_get] using pp4
/-- the step that asks for an INPUT that isn't known -/
theorem go_askso1 {z : zT} {h g : ph_H} {t : Int32} (R : RCo1 h g) (I : IM z g) (ht : iv 0 3 t) (c : ¬ FX12_canGo t g = 0) (a : asksU t g) : (FX3_go_oc1 t h).1 = 7 ∧ FX12_step t g = hs (hs (hs (hs (hs (hs (hs g 0 27 (g 12 t.toNatClampNeg)) 0 28 (g 2 ((24 * t) + g 12 t.toNatClampNeg).toNatClampNeg)) 0 29 (-2)) 0 30 (-2)) 0 31 0) 0 32 (-1)) 0 35 1 := by
  have c' : ¬ FX3_canGo_oc1 t h = 0 := by rw [canGo_eqo1 R I ht]; exact c
  obtain ⟨c1, c2, c3⟩ := cg_true c
  obtain ⟨a1, a2, a3, a4⟩ := a
  obtain ⟨p0, p1, p2, p3⟩ := partso1 R I ht c2
  refine ⟨?_, ?_⟩
  · unfold FX3_go_oc1
    rw [if_neg c']
    rcases mood_ofo1 R ht c with ⟨m, w⟩ | ⟨m, w, wq, q⟩
    · rw [if_neg (by rw [m]; decide)]
      have e : ∀ v, FX5_firstPart_n t v (hs (hs (hs (hs (hs h 25 14 (-2)) 25 15 (-2)) 25 16 0) 25 17 0) 25 13 (h 28 t.toNatClampNeg + 1)) = FX5_firstPart_n t v h := fun v => rfl
      have e1 : (hs (hs (hs (hs (hs h 25 14 (-2)) 25 15 (-2)) 25 16 0) 25 17 0) 25 13 (h 28 t.toNatClampNeg + 1)) 28 t.toNatClampNeg = h 28 t.toNatClampNeg := by simp [hs_get]
      have e2 : ∀ i, (hs (hs (hs (hs (hs h 25 14 (-2)) 25 15 (-2)) 25 16 0) 25 17 0) 25 13 (h 28 t.toNatClampNeg + 1)) 3 i = h 3 i := fun i => by simp [hs_get]
      rw [pf_16o1 (h := (hs (hs (hs (hs (hs h 25 14 (-2)) 25 15 (-2)) 25 16 0) 25 17 0) 25 13 (h 28 t.toNatClampNeg + 1))) (a := g 3 ((24 * t) + g 12 t.toNatClampNeg).toNatClampNeg) (b := g 4 ((24 * t) + g 12 t.toNatClampNeg).toNatClampNeg) (c := g 5 ((24 * t) + g 12 t.toNatClampNeg).toNatClampNeg) (by rw [e1, e, e2, p0, a2]) (by rw [e1, e, e2, p1]) (by rw [e1, e, e2, p2]) (by rw [e1, e, e2, p3])]
      unfold FX3_takeInput_oc1
      obtain ⟨i1, i2, i3, i4⟩ := R.2.2.2.2.1
      have f1 : (hs (hs (hs (hs (hs h 25 14 (-2)) 25 15 (-2)) 25 16 0) 25 17 0) 25 13 (h 28 t.toNatClampNeg + 1)) 25 11 = kn g := by rw [← i2]; simp [hs_get]
      have f2 : (hs (hs (hs (hs (hs h 25 14 (-2)) 25 15 (-2)) 25 16 0) 25 17 0) 25 13 (h 28 t.toNatClampNeg + 1)) 25 12 = g 0 23 := by rw [← i1]; simp [hs_get]
      have f3 : kn g ≤ g 0 23 := by
        unfold kn
        rw [if_neg a3, a4]
        rw [Int32.le_iff_toInt_le]
        omega
      rw [f1, f2, if_pos f3]
      rfl
    · exact absurd a1 w
  · unfold FX12_step
    rw [if_pos a1, if_pos a2, if_neg a3, if_pos a4]
theorem go_noo1 {z : zT} {h g : ph_H} {t : Int32} (R : RCo1 h g) (I : IM z g) (ht : iv 0 3 t) (c : FX12_canGo t g = 0) : FX3_go_oc1 t h = (-1, h) := by
  unfold FX3_go_oc1
  rw [canGo_eqo1 R I ht, if_pos c]
end MG_48_x25A8o1
section MG_48_x26B1o1
/-! BEGIN on both sides -/
theorem fill_16o1 : ∀ (q : Nat) (v x n : Int32) (h : ph_H), 0 ≤ x.toInt → x.toInt ≤ n.toInt → n.toInt ≤ 1000 → n.toInt - x.toInt < (q : Int) → (∀ k i, ¬ k = 26 → FJ7_fill_53178_k26_5 q v x n h k i = h k i) ∧ (∀ i : Nat, x.toInt ≤ i → (i : Int) < n.toInt → FJ7_fill_53178_k26_5 q v x n h 26 i = v) ∧ (∀ i : Nat, (i : Int) < x.toInt → FJ7_fill_53178_k26_5 q v x n h 26 i = h 26 i)
  | 0, v, x, n, h, a, b, c, m => by omega
  | q + 1, v, x, n, h, a, b, c, m => by
    have k1 : (1 : Int32).toInt = 1 := by decide
    unfold FJ7_fill_53178_k26_5
    by_cases d : n ≤ x
    · rw [if_pos d]
      rw [Int32.le_iff_toInt_le] at d
      exact ⟨fun _ _ _ => rfl, fun i e f => by omega, fun _ _ => rfl⟩
    · rw [if_neg d]
      rw [Int32.le_iff_toInt_le] at d
      have e1 : (x + 1).toInt = x.toInt + 1 := by rw [ti_add (by omega) (by omega), k1]
      have xn : (x.toNatClampNeg : Int) = x.toInt := by
        rw [← Int32.toNat_toInt]
        omega
      obtain ⟨a1, a2, a3⟩ := fill_16o1 q v (x + 1) n (hs h 26 x.toNatClampNeg v) (by omega) (by omega) c (by omega)
      refine ⟨fun k i e => ?_, fun i e f => ?_, fun i e => ?_⟩
      · rw [a1 k i e, hs_o (fun w => e w.1)]
      · by_cases g : (i : Int) = x.toInt
        · rw [a3 i (by omega), hs_get, if_pos rfl, if_pos (by omega)]
        · exact a2 i (by omega) f
      · rw [a3 i (by omega), hs_o (fun w => by omega)]
theorem fill_17o1 : ∀ (q : Nat) (v x n : Int32) (h : ph_H), 0 ≤ x.toInt → x.toInt ≤ n.toInt → n.toInt ≤ 1000 → n.toInt - x.toInt < (q : Int) → (∀ k i, ¬ k = 27 → FJ7_fill_53178_k27_5 q v x n h k i = h k i) ∧ (∀ i : Nat, x.toInt ≤ i → (i : Int) < n.toInt → FJ7_fill_53178_k27_5 q v x n h 27 i = v) ∧ (∀ i : Nat, (i : Int) < x.toInt → FJ7_fill_53178_k27_5 q v x n h 27 i = h 27 i)
  | 0, v, x, n, h, a, b, c, m => by omega
  | q + 1, v, x, n, h, a, b, c, m => by
    have k1 : (1 : Int32).toInt = 1 := by decide
    unfold FJ7_fill_53178_k27_5
    by_cases d : n ≤ x
    · rw [if_pos d]
      rw [Int32.le_iff_toInt_le] at d
      exact ⟨fun _ _ _ => rfl, fun i e f => by omega, fun _ _ => rfl⟩
    · rw [if_neg d]
      rw [Int32.le_iff_toInt_le] at d
      have e1 : (x + 1).toInt = x.toInt + 1 := by rw [ti_add (by omega) (by omega), k1]
      have xn : (x.toNatClampNeg : Int) = x.toInt := by
        rw [← Int32.toNat_toInt]
        omega
      obtain ⟨a1, a2, a3⟩ := fill_17o1 q v (x + 1) n (hs h 27 x.toNatClampNeg v) (by omega) (by omega) c (by omega)
      refine ⟨fun k i e => ?_, fun i e f => ?_, fun i e => ?_⟩
      · rw [a1 k i e, hs_o (fun w => e w.1)]
      · by_cases g : (i : Int) = x.toInt
        · rw [a3 i (by omega), hs_get, if_pos rfl, if_pos (by omega)]
        · exact a2 i (by omega) f
      · rw [a3 i (by omega), hs_o (fun w => by omega)]
theorem fill_18o1 : ∀ (q : Nat) (v x n : Int32) (h : ph_H), 0 ≤ x.toInt → x.toInt ≤ n.toInt → n.toInt ≤ 1000 → n.toInt - x.toInt < (q : Int) → (∀ k i, ¬ k = 28 → FJ7_fill_53178_k28_5 q v x n h k i = h k i) ∧ (∀ i : Nat, x.toInt ≤ i → (i : Int) < n.toInt → FJ7_fill_53178_k28_5 q v x n h 28 i = v) ∧ (∀ i : Nat, (i : Int) < x.toInt → FJ7_fill_53178_k28_5 q v x n h 28 i = h 28 i)
  | 0, v, x, n, h, a, b, c, m => by omega
  | q + 1, v, x, n, h, a, b, c, m => by
    have k1 : (1 : Int32).toInt = 1 := by decide
    unfold FJ7_fill_53178_k28_5
    by_cases d : n ≤ x
    · rw [if_pos d]
      rw [Int32.le_iff_toInt_le] at d
      exact ⟨fun _ _ _ => rfl, fun i e f => by omega, fun _ _ => rfl⟩
    · rw [if_neg d]
      rw [Int32.le_iff_toInt_le] at d
      have e1 : (x + 1).toInt = x.toInt + 1 := by rw [ti_add (by omega) (by omega), k1]
      have xn : (x.toNatClampNeg : Int) = x.toInt := by
        rw [← Int32.toNat_toInt]
        omega
      obtain ⟨a1, a2, a3⟩ := fill_18o1 q v (x + 1) n (hs h 28 x.toNatClampNeg v) (by omega) (by omega) c (by omega)
      refine ⟨fun k i e => ?_, fun i e f => ?_, fun i e => ?_⟩
      · rw [a1 k i e, hs_o (fun w => e w.1)]
      · by_cases g : (i : Int) = x.toInt
        · rw [a3 i (by omega), hs_get, if_pos rfl, if_pos (by omega)]
        · exact a2 i (by omega) f
      · rw [a3 i (by omega), hs_o (fun w => by omega)]
theorem fill_19o1 : ∀ (q : Nat) (v x n : Int32) (h : ph_H), 0 ≤ x.toInt → x.toInt ≤ n.toInt → n.toInt ≤ 1000 → n.toInt - x.toInt < (q : Int) → (∀ k i, ¬ k = 29 → FJ7_fill_53178_k29_5 q v x n h k i = h k i) ∧ (∀ i : Nat, x.toInt ≤ i → (i : Int) < n.toInt → FJ7_fill_53178_k29_5 q v x n h 29 i = v) ∧ (∀ i : Nat, (i : Int) < x.toInt → FJ7_fill_53178_k29_5 q v x n h 29 i = h 29 i)
  | 0, v, x, n, h, a, b, c, m => by omega
  | q + 1, v, x, n, h, a, b, c, m => by
    have k1 : (1 : Int32).toInt = 1 := by decide
    unfold FJ7_fill_53178_k29_5
    by_cases d : n ≤ x
    · rw [if_pos d]
      rw [Int32.le_iff_toInt_le] at d
      exact ⟨fun _ _ _ => rfl, fun i e f => by omega, fun _ _ => rfl⟩
    · rw [if_neg d]
      rw [Int32.le_iff_toInt_le] at d
      have e1 : (x + 1).toInt = x.toInt + 1 := by rw [ti_add (by omega) (by omega), k1]
      have xn : (x.toNatClampNeg : Int) = x.toInt := by
        rw [← Int32.toNat_toInt]
        omega
      obtain ⟨a1, a2, a3⟩ := fill_19o1 q v (x + 1) n (hs h 29 x.toNatClampNeg v) (by omega) (by omega) c (by omega)
      refine ⟨fun k i e => ?_, fun i e f => ?_, fun i e => ?_⟩
      · rw [a1 k i e, hs_o (fun w => e w.1)]
      · by_cases g : (i : Int) = x.toInt
        · rw [a3 i (by omega), hs_get, if_pos rfl, if_pos (by omega)]
        · exact a2 i (by omega) f
      · rw [a3 i (by omega), hs_o (fun w => by omega)]
theorem cbego1 (kv : Int32) (h : ph_H) : (∀ i, i < 28 → FX3_begin_on kv h 26 i = 0) ∧ (∀ i, i < 28 → FX3_begin_on kv h 27 i = if i < 12 then h 4 i else 0) ∧ (∀ t, t < 4 → FX3_begin_on kv h 28 t = 0) ∧ (∀ t, t < 4 → FX3_begin_on kv h 29 t = if t = 0 then 1 else 0) ∧ FX3_begin_on kv h 25 10 = 0 ∧ FX3_begin_on kv h 25 11 = kv ∧ FX3_begin_on kv h 25 12 = 0 ∧ (∀ k i, ¬ (25 ≤ k ∧ k ≤ 29) → FX3_begin_on kv h k i = h k i) := by
  have k28 : (28 : Int32).toInt = 28 := by decide
  have k4 : (4 : Int32).toInt = 4 := by decide
  have k0 : (0 : Int32).toInt = 0 := by decide
  have n0 : (0 : Int32).toNatClampNeg = 0 := by decide
  have n12 : (12 : Int32).toNatClampNeg = 12 := by decide
  unfold FX3_begin_on FX3_begin_on_13 FX3_begin_on_21 FX3_begin_on_44 FX3_begin_on_52 FJ7_fill_53178_k26 FJ7_fill_53178_k27 FJ7_fill_53178_k28 FJ7_fill_53178_k29
  obtain ⟨a1, a2, -⟩ := fill_16o1 2000 0 0 28 h (by decide) (by decide) (by decide) (by decide)
  generalize FJ7_fill_53178_k26_5 2000 0 0 28 h = h1 at *
  obtain ⟨b1, b2, -⟩ := fill_17o1 2000 0 0 28 h1 (by decide) (by decide) (by decide) (by decide)
  generalize FJ7_fill_53178_k27_5 2000 0 0 28 h1 = h2 at *
  have c0 : ∀ k i, ¬ k = 27 → hc h2 4 27 0 0 12 k i = h2 k i := fun k i e => hc_o e
  have c1 : ∀ i, hc h2 4 27 0 0 12 27 i = if i < 12 then h2 4 i else h2 27 i := fun i => by
    rw [hc_at, n12]
  generalize hc h2 4 27 0 0 12 = h3 at *
  obtain ⟨d1, d2, -⟩ := fill_18o1 2000 0 0 4 h3 (by decide) (by decide) (by decide) (by decide)
  generalize FJ7_fill_53178_k28_5 2000 0 0 4 h3 = h4 at *
  obtain ⟨e1, e2, -⟩ := fill_19o1 2000 0 0 4 h4 (by decide) (by decide) (by decide) (by decide)
  generalize FJ7_fill_53178_k29_5 2000 0 0 4 h4 = h5 at *
  rw [n0]
  refine ⟨fun i hi => ?_, fun i hi => ?_, fun t ht => ?_, fun t ht => ?_, ?_, ?_, ?_, fun k i q => ?_⟩
  · rw [hs_o (by simp), hs_o (by simp), hs_o (by simp), hs_o (by simp), e1 _ _ (by decide), d1 _ _ (by decide), c0 _ _ (by decide), b1 _ _ (by decide), a2 i (by omega) (by omega)]
  · rw [hs_o (by simp), hs_o (by simp), hs_o (by simp), hs_o (by simp), e1 _ _ (by decide), d1 _ _ (by decide), c1 i, b1 _ _ (by decide), a1 _ _ (by decide), b2 i (by omega) (by omega)]
  · rw [hs_o (by simp), hs_o (by simp), hs_o (by simp), hs_o (by simp), e1 _ _ (by decide), d2 t (by omega) (by omega)]
  · rw [hs_o (by simp), hs_o (by simp), hs_o (by simp), hs_get, if_pos rfl]
    by_cases c : t = 0
    · rw [if_pos c, if_pos c]
    · rw [if_neg c, if_neg c, e2 t (by omega) (by omega)]
  · rw [hs_o (by simp), hs_o (by simp), hs_self]
  · rw [hs_o (by simp), hs_self]
  · rw [hs_self]
  · rw [hs_o (by omega), hs_o (by omega), hs_o (by omega), hs_o (by omega), e1 _ _ (by omega), d1 _ _ (by omega), c0 _ _ (by omega), b1 _ _ (by omega), a1 _ _ (by omega)]
def PRo1 (h g : ph_H) : Prop := Rpro1 h g ∧ (∀ c, c < 12 → h 4 c = g 6 c) ∧ (∀ i, iv 0 19 (g 2 i))
theorem begin_RCo1 {h g : ph_H} {kv : Int32} (p : PRo1 h g) (e : kv = kn g) (n : 0 ≤ (kn g).toInt) (v : ∀ k : Nat, (k : Int) < (kn g).toInt → h 5 k = vi g k) : RCo1 (FX3_begin_on kv h) (FX12_begin g) := by
  obtain ⟨c1, c2, c3, c4, c5, c6, c7, c8⟩ := cbego1 kv h
  obtain ⟨r1, r2, r3, r4⟩ := rbeg g
  have k0 : (0 : Int32).toInt = 0 := by decide
  have kn1 : (-1 : Int32).toInt = -1 := by decide
  have ek : kn (FX12_begin g) = kn g := by
    unfold kn
    rw [r4, r4, r4]
    simp
  have ev : ∀ k, vi (FX12_begin g) k = vi g k := fun k => by
    unfold vi
    rw [r4, r3 7 k (by decide) (by decide), r3 36 k (by decide) (by decide)]
    simp
  have e18 : FX12_begin g 0 18 = 0 := by rw [r4]; simp
  have e23 : FX12_begin g 0 23 = 0 := by rw [r4]; simp
  refine ⟨fun i hi => ?_, fun t ht => ?_, fun t ht => ?_, ⟨?_, fun x hx => ?_⟩, ⟨?_, ?_, ?_, fun k hk => ?_⟩, ⟨fun t ht => ?_, fun i hi => ?_⟩, ⟨fun k hk => ?_, fun t ht => ?_, fun i => ?_⟩⟩
  · obtain ⟨a, b⟩ := r1 i hi
    rw [c1 i hi, c2 i hi, a, b]
    refine ⟨rfl, ?_⟩
    by_cases c : i < 12
    · rw [if_pos c, if_pos c]
      exact p.2.1 i c
    · rw [if_neg c, if_neg c]
  · rw [c3 t ht, (r2 t ht).1, r3 1 t (by decide) (by decide)]
    unfold nrm
    rw [if_neg (by decide)]
    by_cases c : g 1 t ≤ 0
    · rw [if_pos c, if_neg (fun w => by
        rw [Int32.lt_iff_toInt_lt] at w
        rw [Int32.le_iff_toInt_le] at c
        omega)]
    · rw [if_neg c, if_pos (nle c)]
  · obtain ⟨a, b, c, d⟩ := r2 t ht
    rw [c4 t ht, b, c, d]
    by_cases w : t = 0
    · rw [if_pos w]
      exact Or.inr (Or.inl ⟨rfl, rfl, rfl, rfl⟩)
    · rw [if_neg w]
      exact Or.inl ⟨rfl, rfl, rfl, rfl⟩
  · rw [c5, e18]
  · rw [e18, k0] at hx
    omega
  · rw [c7, e23]
  · rw [c6, ek, e]
  · rw [e23, ek, k0]
    exact n
  · rw [c8 _ _ (by decide), ev]
    exact v k (by rw [ek] at hk; exact hk)
  · rw [c8 _ _ (by decide), r3 1 t (by decide) (by decide)]
    exact p.1.1 t ht
  · rw [c8 _ _ (by decide), c8 _ _ (by decide), c8 _ _ (by decide), c8 _ _ (by decide), r3 2 i (by decide) (by decide), r3 3 i (by decide) (by decide), r3 4 i (by decide) (by decide), r3 5 i (by decide) (by decide)]
    exact p.1.2 i hi
  · exact Or.inl (r1 k hk).1
  · obtain ⟨a, b, c, d⟩ := r2 t ht
    rw [c, d, e18, k0, kn1]
    omega
  · rw [r3 2 i (by decide) (by decide)]
    exact p.2.2 i
end MG_48_x26B1o1
section MG_48_x27F2
def pW (k i : Nat) : Bool := match k with
  | 0 => i == 25 || i == 23
  | 1 => true
  | 2 => true
  | 3 => true
  | 4 => true
  | 5 => true
  | 12 => true
  | _ => false
theorem frW_FX12_set {h0 : ph_H} (a0 : Int32) (a1 : Int32) (a2 : Int32) (h : ph_H) (e : EQ pW h0 h) : EQ pW h0 (FX12_set a0 a1 a2 h) := (EQ_s rfl (EQ_s rfl e))
theorem frW_FX12_newThing_29 {h0 : ph_H}  : ∀ (q : Nat) (y0 : Int32) (y1 : Int32) (h : ph_H), EQ pW h0 h → EQ pW h0 (FX12_newThing_29  q y0 y1 h).2 := by
  intro q
  induction q with
  | zero =>
    intro y0 y1 h e
    exact e
  | succ q ih =>
    intro y0 y1 h e
    exact (EQ2_if (EQ_s rfl e) (ih _ _ _ (EQ_s rfl e)))
theorem frW_FX12_newThing {h0 : ph_H} (a0 : Int32) (a1 : Int32) (h : ph_H) (e : EQ pW h0 h) : EQ pW h0 (FX12_newThing a0 a1 h).2 := (frW_FX12_newThing_29   _ _ _ _ (EQ_s rfl (EQ_s rfl (EQ_s rfl e))))
theorem frW_FX12_work_88 {h0 : ph_H}  (h : ph_H) (e : EQ pW h0 h) : EQ pW h0 (FX12_work_88 h) := e
theorem frW_FX12_work_111 {h0 : ph_H}  (h : ph_H) (e : EQ pW h0 h) : EQ pW h0 (FX12_work_111 h) := e
theorem frW_FX12_work_134 {h0 : ph_H}  (h : ph_H) (e : EQ pW h0 h) : EQ pW h0 (FX12_work_134 h) := e
theorem frW_FX12_work_155 {h0 : ph_H}  (h : ph_H) (e : EQ pW h0 h) : EQ pW h0 (FX12_work_155 h) := e
theorem frW_FX12_work_152 {h0 : ph_H} (s0 : Int32) (s1 : Int32) (s2 : Int32) (h : ph_H) (e : EQ pW h0 h) : EQ pW h0 (FX12_work_152 s0 s1 s2 h) := (frW_FX12_work_155   _ (frW_FX12_set _ _ _  _ e))
theorem frW_FX12_work_212 {h0 : ph_H}  (h : ph_H) (e : EQ pW h0 h) : EQ pW h0 (FX12_work_212 h) := e
theorem frW_FX12_work_435 {h0 : ph_H} (L391 : Int32 → Int32 → ph_H → ph_H) (x3 : Int32) (x6 : Int32) (hL391 : ∀ (y0 : Int32) (y1 : Int32) (h : ph_H), EQ pW h0 h → EQ pW h0 (L391 y0 y1 h)) (h : ph_H) (e : EQ pW h0 h) : EQ pW h0 (FX12_work_435 L391 x3 x6 h) := (hL391 _ _ _ e)
theorem frW_FX12_work_391 {h0 : ph_H}  : ∀ (q : Nat) (y0 : Int32) (y1 : Int32) (h : ph_H), EQ pW h0 h → EQ pW h0 (FX12_work_391  q y0 y1 h) := by
  intro q
  induction q with
  | zero =>
    intro y0 y1 h e
    exact e
  | succ q ih =>
    intro y0 y1 h e
    exact (EQ_if e (EQ_if (frW_FX12_work_435 _ _ _ ih _ (EQ_s rfl (EQ_s rfl e))) (frW_FX12_work_435 _ _ _ ih _ e)))
theorem frW_FX12_work {h0 : ph_H} (a0 : Int32) (a1 : Int32) (a2 : Int32) (a3 : Int32) (a4 : Int32) (h : ph_H) (e : EQ pW h0 h) : EQ pW h0 (FX12_work a0 a1 a2 a3 a4 h) := (EQ_if (frW_FX12_work_88   _ (frW_FX12_set _ _ _  _ e)) (EQ_if (frW_FX12_work_111   _ (frW_FX12_set _ _ _  _ e)) (EQ_if (frW_FX12_work_134   _ (frW_FX12_set _ _ _  _ e)) (EQ_if e (EQ_if e (EQ_if (frW_FX12_work_152 _ _ _  _ (frW_FX12_newThing _ _  _ e)) (EQ_if (frW_FX12_work_212   _ (frW_FX12_set _ _ _  _ (EQ_s rfl e))) (EQ_if (EQ_s rfl (EQ_s rfl e)) (EQ_if e (EQ_if (EQ_s rfl (EQ_s rfl (EQ_s rfl e))) (EQ_if (EQ_s rfl (EQ_s rfl (EQ_s rfl e))) (EQ_if (EQ_s rfl (EQ_s rfl (EQ_s rfl (EQ_s rfl e)))) (EQ_if (frW_FX12_work_391   _ _ _ _ (EQ_s rfl (EQ_s rfl e))) e)))))))))))))
def pX (k i : Nat) : Bool := match k with
  | 0 => i == 25
  | 1 => true
  | 2 => true
  | 3 => true
  | 4 => true
  | 5 => true
  | 12 => true
  | 14 => true
  | 15 => true
  | _ => false
theorem frX_FX12_set {h0 : ph_H} (a0 : Int32) (a1 : Int32) (a2 : Int32) (h : ph_H) (e : EQ pX h0 h) : EQ pX h0 (FX12_set a0 a1 a2 h) := (EQ_s rfl (EQ_s rfl e))
theorem frX_FX12_newThing_29 {h0 : ph_H}  : ∀ (q : Nat) (y0 : Int32) (y1 : Int32) (h : ph_H), EQ pX h0 h → EQ pX h0 (FX12_newThing_29  q y0 y1 h).2 := by
  intro q
  induction q with
  | zero =>
    intro y0 y1 h e
    exact e
  | succ q ih =>
    intro y0 y1 h e
    exact (EQ2_if (EQ_s rfl e) (ih _ _ _ (EQ_s rfl e)))
theorem frX_FX12_newThing {h0 : ph_H} (a0 : Int32) (a1 : Int32) (h : ph_H) (e : EQ pX h0 h) : EQ pX h0 (FX12_newThing a0 a1 h).2 := (frX_FX12_newThing_29   _ _ _ _ (EQ_s rfl (EQ_s rfl (EQ_s rfl e))))
theorem frX_FX12_workPlain_116 {h0 : ph_H}  (h : ph_H) (e : EQ pX h0 h) : EQ pX h0 (FX12_workPlain_116 h) := e
theorem frX_FX12_workPlain_153 {h0 : ph_H}  (h : ph_H) (e : EQ pX h0 h) : EQ pX h0 (FX12_workPlain_153 h) := e
theorem frX_FX12_workPlain_191 {h0 : ph_H}  (h : ph_H) (e : EQ pX h0 h) : EQ pX h0 (FX12_workPlain_191 h) := e
theorem frX_FX12_workPlain_222 {h0 : ph_H}  (h : ph_H) (e : EQ pX h0 h) : EQ pX h0 (FX12_workPlain_222 h) := e
theorem frX_FX12_workPlain_219 {h0 : ph_H} (s0 : Int32) (s1 : Int32) (s2 : Int32) (h : ph_H) (e : EQ pX h0 h) : EQ pX h0 (FX12_workPlain_219 s0 s1 s2 h) := (frX_FX12_workPlain_222   _ (frX_FX12_set _ _ _  _ e))
theorem frX_FX12_workPlain_206 {h0 : ph_H} (x3 : Int32) (s0 : Int32) (h : ph_H) (e : EQ pX h0 h) : EQ pX h0 (FX12_workPlain_206 x3 s0 h) := (frX_FX12_workPlain_219 _ _ _  _ (frX_FX12_newThing _ _  _ e))
theorem frX_FX12_workPlain_259 {h0 : ph_H}  (h : ph_H) (e : EQ pX h0 h) : EQ pX h0 (FX12_workPlain_259 h) := (EQ_s rfl e)
theorem frX_FX12_workPlain_256 {h0 : ph_H} (s0 : Int32) (s1 : Int32) (s2 : Int32) (h : ph_H) (e : EQ pX h0 h) : EQ pX h0 (FX12_workPlain_256 s0 s1 s2 h) := (frX_FX12_workPlain_259   _ (frX_FX12_set _ _ _  _ e))
theorem frX_FX12_workPlain {h0 : ph_H} (a0 : Int32) (a1 : Int32) (a2 : Int32) (a3 : Int32) (h : ph_H) (e : EQ pX h0 h) : EQ pX h0 (FX12_workPlain a0 a1 a2 a3 h) := (EQ_if (frX_FX12_workPlain_116   _ (frX_FX12_set _ _ _  _ e)) (EQ_if (frX_FX12_workPlain_153   _ (frX_FX12_set _ _ _  _ (EQ_s rfl e))) (EQ_if (frX_FX12_workPlain_191   _ (frX_FX12_set _ _ _  _ (EQ_s rfl e))) (EQ_if e (EQ_if e (EQ_if e (EQ_if e (EQ_if e (EQ_if e (EQ_if e (EQ_if e (EQ_if (EQ_if (frX_FX12_workPlain_206 _ _  _ e) (frX_FX12_workPlain_206 _ _  _ e)) (EQ_if e (EQ_if e (EQ_if e (EQ_if e (EQ_if (EQ_if (frX_FX12_workPlain_256 _ _ _  _ e) (frX_FX12_workPlain_256 _ _ _  _ e)) (EQ_if (EQ_s rfl (EQ_s rfl (EQ_s rfl e))) e))))))))))))))))))
def pY (k i : Nat) : Bool := match k with
  | 10 => true
  | 11 => true
  | _ => false
theorem frY_FX12_newThing_29 {h0 : ph_H}  : ∀ (q : Nat) (y0 : Int32) (y1 : Int32) (h : ph_H), EQ pY h0 h → EQ pY h0 (FX12_newThing_29  q y0 y1 h).2 := by
  intro q
  induction q with
  | zero =>
    intro y0 y1 h e
    exact e
  | succ q ih =>
    intro y0 y1 h e
    exact (EQ2_if (EQ_s rfl e) (ih _ _ _ (EQ_s rfl e)))
theorem frY_FX12_newThing {h0 : ph_H} (a0 : Int32) (a1 : Int32) (h : ph_H) (e : EQ pY h0 h) : EQ pY h0 (FX12_newThing a0 a1 h).2 := (frY_FX12_newThing_29   _ _ _ _ (EQ_s rfl (EQ_s rfl (EQ_s rfl e))))
theorem frY_FX12_work_435 {h0 : ph_H} (L391 : Int32 → Int32 → ph_H → ph_H) (x3 : Int32) (x6 : Int32) (hL391 : ∀ (y0 : Int32) (y1 : Int32) (h : ph_H), EQ pY h0 h → EQ pY h0 (L391 y0 y1 h)) (h : ph_H) (e : EQ pY h0 h) : EQ pY h0 (FX12_work_435 L391 x3 x6 h) := (hL391 _ _ _ e)
theorem frY_FX12_work_391 {h0 : ph_H}  : ∀ (q : Nat) (y0 : Int32) (y1 : Int32) (h : ph_H), EQ pY h0 h → EQ pY h0 (FX12_work_391  q y0 y1 h) := by
  intro q
  induction q with
  | zero =>
    intro y0 y1 h e
    exact e
  | succ q ih =>
    intro y0 y1 h e
    exact (EQ_if e (EQ_if (frY_FX12_work_435 _ _ _ ih _ (EQ_s rfl (EQ_s rfl e))) (frY_FX12_work_435 _ _ _ ih _ e)))
end MG_48_x27F2
section MG_48_x28F3
def pF (k i : Nat) : Bool := match k with
  | 1 => true
  | 2 => true
  | 3 => true
  | 4 => true
  | 5 => true
  | 6 => true
  | 7 => true
  | 52 => true
  | 53 => true
  | 54 => true
  | 55 => true
  | 56 => true
  | 57 => true
  | 58 => true
  | 59 => true
  | _ => false
theorem frF_FX3_hold_oc1 {h0 : ph_H} (a0 : Int32) (a1 : Int32) (a2 : Int32) (h : ph_H) (e : EQ pF h0 h) : EQ pF h0 (FX3_hold_oc1 a0 a1 a2 h).2 := (EQ_s rfl (EQ_s rfl e))
theorem frF_FX3_getCell_oc1 {h0 : ph_H} (a0 : Int32) (a1 : Int32) (h : ph_H) (e : EQ pF h0 h) : EQ pF h0 (FX3_getCell_oc1 a0 a1 h).2 := (frF_FX3_hold_oc1 _ _ _  _ (EQ_s rfl e))
theorem frF_FX3_goTo_oc1 {h0 : ph_H} (a0 : Int32) (h : ph_H) (e : EQ pF h0 h) : EQ pF h0 (FX3_goTo_oc1 a0 h).2 := (EQ_s rfl e)
theorem frF_FX3_goUnless_oc1_25 {h0 : ph_H} (s0 : Int32) (h : ph_H) (e : EQ pF h0 h) : EQ pF h0 (FX3_goUnless_oc1_25 s0 h).2 := e
theorem frF_FX3_goUnless_oc1 {h0 : ph_H} (a0 : Int32) (a1 : Int32) (h : ph_H) (e : EQ pF h0 h) : EQ pF h0 (FX3_goUnless_oc1 a0 a1 h).2 := (EQ2_if (EQ2_if (frF_FX3_goUnless_oc1_25 _  _ (frF_FX3_goTo_oc1 _  _ e)) e) e)
theorem frF_FX3_free_oc1 {h0 : ph_H} (a0 : Int32) (h : ph_H) (e : EQ pF h0 h) : EQ pF h0 (FX3_free_oc1 a0 h).2 := (EQ_s rfl (EQ_s rfl (EQ_s rfl e)))
theorem frF_FX3_leaveLock_oc1 {h0 : ph_H} (a0 : Int32) (a1 : Int32) (h : ph_H) (e : EQ pF h0 h) : EQ pF h0 (FX3_leaveLock_oc1 a0 a1 h).2 := (EQ2_if (EQ2_if (frF_FX3_free_oc1 _  _ e) e) e)
theorem frF_FX3_lieDown_oc1 {h0 : ph_H} (a0 : Int32) (a1 : Int32) (h : ph_H) (e : EQ pF h0 h) : EQ pF h0 (FX3_lieDown_oc1 a0 a1 h).2 := (EQ2_if (EQ2_if (frF_FX3_free_oc1 _  _ (EQ_s rfl (EQ_s rfl (EQ_s rfl e)))) e) e)
theorem frF_FX3_makeThing_oc1 {h0 : ph_H} (a0 : Int32) (a1 : Int32) (a2 : Int32) (h : ph_H) (e : EQ pF h0 h) : EQ pF h0 (FX3_makeThing_oc1 a0 a1 a2 h).2 := (EQ_s rfl (EQ_s rfl (EQ_s rfl (EQ_s rfl (EQ_s rfl (EQ_s rfl e))))))
theorem frF_FX3_makeLock_oc1_22 {h0 : ph_H} (s0 : Int32) (s1 : Int32) (h : ph_H) (e : EQ pF h0 h) : EQ pF h0 (FX3_makeLock_oc1_22 s0 s1 h).2 := (frF_FX3_makeThing_oc1 _ _ _  _ e)
theorem frF_FX3_makeLock_oc1 {h0 : ph_H} (a0 : Int32) (a1 : Int32) (h : ph_H) (e : EQ pF h0 h) : EQ pF h0 (FX3_makeLock_oc1 a0 a1 h).2 := (EQ2_if (EQ2_if (frF_FX3_makeLock_oc1_22 _ _  _ e) (frF_FX3_makeLock_oc1_22 _ _  _ e)) e)
theorem frF_FX3_makeRow_oc1_44 {h0 : ph_H}  : ∀ (q : Nat) (y0 : Int32) (y1 : Int32) (y2 : Int32) (h : ph_H), EQ pF h0 h → EQ pF h0 (FX3_makeRow_oc1_44  q y0 y1 y2 h).2 := by
  intro q
  induction q with
  | zero =>
    intro y0 y1 y2 h e
    exact e
  | succ q ih =>
    intro y0 y1 y2 h e
    exact (EQ2_if (frF_FX3_makeThing_oc1 _ _ _  _ e) (ih _ _ _ _ (EQ_s rfl e)))
theorem frF_FX3_makeRow_oc1 {h0 : ph_H} (a0 : Int32) (a1 : Int32) (h : ph_H) (e : EQ pF h0 h) : EQ pF h0 (FX3_makeRow_oc1 a0 a1 h).2 := (EQ2_if (EQ2_if (EQ2_if e (EQ2_if (frF_FX3_makeRow_oc1_44   _ _ _ _ _ e) e)) e) e)
theorem frF_FX3_putCell_oc1 {h0 : ph_H} (a0 : Int32) (a1 : Int32) (h : ph_H) (e : EQ pF h0 h) : EQ pF h0 (FX3_putCell_oc1 a0 a1 h).2 := (frF_FX3_hold_oc1 _ _ _  _ (EQ_s rfl e))
theorem frF_FX3_readRow_oc1 {h0 : ph_H} (a0 : Int32) (a1 : Int32) (a2 : Int32) (h : ph_H) (e : EQ pF h0 h) : EQ pF h0 (FX3_readRow_oc1 a0 a1 a2 h).2 := (EQ2_if (EQ2_if (EQ2_if e (frF_FX3_hold_oc1 _ _ _  _ (EQ_s rfl e))) e) e)
theorem frF_FX3_reckon_oc1_58 {h0 : ph_H} (x2 : Int32) (s0 : Int32) (h : ph_H) (e : EQ pF h0 h) : EQ pF h0 (FX3_reckon_oc1_58 x2 s0 h).2 := (frF_FX3_hold_oc1 _ _ _  _ e)
theorem frF_FX3_reckon_oc1 {h0 : ph_H} (a0 : Int32) (a1 : Int32) (a2 : Int32) (h : ph_H) (e : EQ pF h0 h) : EQ pF h0 (FX3_reckon_oc1 a0 a1 a2 h).2 := (EQ2_if e (EQ2_if (frF_FX3_reckon_oc1_58 _ _  _ e) (EQ2_if (frF_FX3_reckon_oc1_58 _ _  _ e) (frF_FX3_reckon_oc1_58 _ _  _ e))))
theorem frF_FX3_startThread_oc1 {h0 : ph_H} (a0 : Int32) (h : ph_H) (e : EQ pF h0 h) : EQ pF h0 (FX3_startThread_oc1 a0 h).2 := (EQ2_if (EQ_s rfl (EQ_s rfl (EQ_s rfl e))) e)
theorem frF_FX3_takeInput_oc1 {h0 : ph_H} (a0 : Int32) (h : ph_H) (e : EQ pF h0 h) : EQ pF h0 (FX3_takeInput_oc1 a0 h).2 := (EQ2_if e (EQ2_if (frF_FX3_hold_oc1 _ _ _  _ (EQ_s rfl e)) e))
theorem frF_FX3_own_oc1 {h0 : ph_H} (a0 : Int32) (a1 : Int32) (h : ph_H) (e : EQ pF h0 h) : EQ pF h0 (FX3_own_oc1 a0 a1 h).2 := (EQ_s rfl (EQ_s rfl (EQ_s rfl e)))
theorem frF_FX3_takeLock_oc1 {h0 : ph_H} (a0 : Int32) (a1 : Int32) (h : ph_H) (e : EQ pF h0 h) : EQ pF h0 (FX3_takeLock_oc1 a0 a1 h).2 := (EQ2_if (EQ2_if e (frF_FX3_own_oc1 _ _  _ e)) e)
theorem frF_FX3_wakeSleepers_oc1_64 {h0 : ph_H} (L28 : Int32 → Int32 → ph_H → Int32 × ph_H) (x3 : Int32) (x4 : Int32) (hL28 : ∀ (y0 : Int32) (y1 : Int32) (h : ph_H), EQ pF h0 h → EQ pF h0 (L28 y0 y1 h).2) (h : ph_H) (e : EQ pF h0 h) : EQ pF h0 (FX3_wakeSleepers_oc1_64 L28 x3 x4 h).2 := (hL28 _ _ _ e)
theorem frF_FX3_wakeSleepers_oc1_28 {h0 : ph_H}  : ∀ (q : Nat) (y0 : Int32) (y1 : Int32) (h : ph_H), EQ pF h0 h → EQ pF h0 (FX3_wakeSleepers_oc1_28  q y0 y1 h).2 := by
  intro q
  induction q with
  | zero =>
    intro y0 y1 h e
    exact e
  | succ q ih =>
    intro y0 y1 h e
    exact (EQ2_if (EQ_s rfl e) (EQ2_if (EQ2_if (frF_FX3_wakeSleepers_oc1_64 _ _ _ ih _ (EQ_s rfl e)) (frF_FX3_wakeSleepers_oc1_64 _ _ _ ih _ e)) (frF_FX3_wakeSleepers_oc1_64 _ _ _ ih _ e)))
theorem frF_FX3_wakeSleepers_oc1 {h0 : ph_H} (a0 : Int32) (a1 : Int32) (h : ph_H) (e : EQ pF h0 h) : EQ pF h0 (FX3_wakeSleepers_oc1 a0 a1 h).2 := (EQ2_if (EQ2_if (frF_FX3_wakeSleepers_oc1_28   _ _ _ _ e) e) e)
theorem frF_FX3_writeRow_oc1 {h0 : ph_H} (a0 : Int32) (a1 : Int32) (a2 : Int32) (h : ph_H) (e : EQ pF h0 h) : EQ pF h0 (FX3_writeRow_oc1 a0 a1 a2 h).2 := (EQ2_if (EQ2_if e (EQ2_if e (EQ_s rfl (EQ_s rfl e)))) e)
theorem frF_FX3_perform_oc1_288 {h0 : ph_H} (s0 : Int32) (s1 : Int32) (h : ph_H) (e : EQ pF h0 h) : EQ pF h0 (FX3_perform_oc1_288 s0 s1 h).2 := (frF_FX3_makeLock_oc1 _ _  _ e)
theorem frF_FX3_perform_oc1 {h0 : ph_H} (a0 : Int32) (h : ph_H) (e : EQ pF h0 h) : EQ pF h0 (FX3_perform_oc1 a0 h).2 := (EQ2_if (frF_FX3_hold_oc1 _ _ _  _ e) (EQ2_if (frF_FX3_getCell_oc1 _ _  _ e) (EQ2_if (frF_FX3_putCell_oc1 _ _  _ e) (EQ2_if (frF_FX3_reckon_oc1 _ _ _  _ e) (EQ2_if (frF_FX3_reckon_oc1 _ _ _  _ e) (EQ2_if (frF_FX3_reckon_oc1 _ _ _  _ e) (EQ2_if (frF_FX3_goTo_oc1 _  _ e) (EQ2_if (frF_FX3_goUnless_oc1 _ _  _ e) (EQ2_if (frF_FX3_makeRow_oc1 _ _  _ e) (EQ2_if (frF_FX3_readRow_oc1 _ _ _  _ e) (EQ2_if (frF_FX3_writeRow_oc1 _ _ _  _ e) (EQ2_if (EQ2_if (frF_FX3_perform_oc1_288 _ _  _ e) (frF_FX3_perform_oc1_288 _ _  _ e)) (EQ2_if (frF_FX3_takeLock_oc1 _ _  _ e) (EQ2_if (frF_FX3_leaveLock_oc1 _ _  _ e) (EQ2_if (frF_FX3_lieDown_oc1 _ _  _ e) (EQ2_if (frF_FX3_wakeSleepers_oc1 _ _  _ e) (EQ2_if (frF_FX3_takeInput_oc1 _  _ e) (EQ2_if (frF_FX3_startThread_oc1 _  _ e) (EQ2_if e (frF_FX3_goTo_oc1 _  _ e))))))))))))))))))))
theorem frF_FX3_rise_oc1 {h0 : ph_H} (a0 : Int32) (h : ph_H) (e : EQ pF h0 h) : EQ pF h0 (FX3_rise_oc1 a0 h).2 := (frF_FX3_own_oc1 _ _  _ (EQ_s rfl e))
theorem frF_FX3_go_oc1_67 {h0 : ph_H} (x1 : Int32) (s0 : Int32) (h : ph_H) (e : EQ pF h0 h) : EQ pF h0 (FX3_go_oc1_67 x1 s0 h).2 := (EQ2_if (EQ_s rfl e) e)
theorem frF_FX3_go_oc1_59 {h0 : ph_H} (x1 : Int32) (s0 : Int32) (h : ph_H) (e : EQ pF h0 h) : EQ pF h0 (FX3_go_oc1_59 x1 s0 h).2 := (frF_FX3_go_oc1_67 _ _  _ e)
theorem frF_FX3_go_oc1 {h0 : ph_H} (a0 : Int32) (h : ph_H) (e : EQ pF h0 h) : EQ pF h0 (FX3_go_oc1 a0 h).2 := (EQ2_if e (EQ2_if (frF_FX3_go_oc1_59 _ _  _ (frF_FX3_rise_oc1 _  _ (EQ_s rfl (EQ_s rfl (EQ_s rfl (EQ_s rfl (EQ_s rfl e))))))) (frF_FX3_go_oc1_67 _ _  _ (frF_FX3_perform_oc1 _  _ (EQ_s rfl (EQ_s rfl (EQ_s rfl (EQ_s rfl (EQ_s rfl e)))))))))
theorem frF_FJ7_fill_53178_k26_5 {h0 : ph_H}  : ∀ (q : Nat) (y0 : Int32) (y1 : Int32) (y2 : Int32) (h : ph_H), EQ pF h0 h → EQ pF h0 (FJ7_fill_53178_k26_5  q y0 y1 y2 h) := by
  intro q
  induction q with
  | zero =>
    intro y0 y1 y2 h e
    exact e
  | succ q ih =>
    intro y0 y1 y2 h e
    exact (EQ_if e (ih _ _ _ _ (EQ_s rfl e)))
theorem frF_FJ7_fill_53178_k26 {h0 : ph_H} (a1 : Int32) (h : ph_H) (e : EQ pF h0 h) : EQ pF h0 (FJ7_fill_53178_k26 a1 h) := (frF_FJ7_fill_53178_k26_5   _ _ _ _ _ e)
theorem frF_FJ7_fill_53178_k27_5 {h0 : ph_H}  : ∀ (q : Nat) (y0 : Int32) (y1 : Int32) (y2 : Int32) (h : ph_H), EQ pF h0 h → EQ pF h0 (FJ7_fill_53178_k27_5  q y0 y1 y2 h) := by
  intro q
  induction q with
  | zero =>
    intro y0 y1 y2 h e
    exact e
  | succ q ih =>
    intro y0 y1 y2 h e
    exact (EQ_if e (ih _ _ _ _ (EQ_s rfl e)))
theorem frF_FJ7_fill_53178_k27 {h0 : ph_H} (a1 : Int32) (h : ph_H) (e : EQ pF h0 h) : EQ pF h0 (FJ7_fill_53178_k27 a1 h) := (frF_FJ7_fill_53178_k27_5   _ _ _ _ _ e)
theorem frF_FJ7_fill_53178_k28_5 {h0 : ph_H}  : ∀ (q : Nat) (y0 : Int32) (y1 : Int32) (y2 : Int32) (h : ph_H), EQ pF h0 h → EQ pF h0 (FJ7_fill_53178_k28_5  q y0 y1 y2 h) := by
  intro q
  induction q with
  | zero =>
    intro y0 y1 y2 h e
    exact e
  | succ q ih =>
    intro y0 y1 y2 h e
    exact (EQ_if e (ih _ _ _ _ (EQ_s rfl e)))
theorem frF_FJ7_fill_53178_k28 {h0 : ph_H} (a1 : Int32) (h : ph_H) (e : EQ pF h0 h) : EQ pF h0 (FJ7_fill_53178_k28 a1 h) := (frF_FJ7_fill_53178_k28_5   _ _ _ _ _ e)
theorem frF_FJ7_fill_53178_k29_5 {h0 : ph_H}  : ∀ (q : Nat) (y0 : Int32) (y1 : Int32) (y2 : Int32) (h : ph_H), EQ pF h0 h → EQ pF h0 (FJ7_fill_53178_k29_5  q y0 y1 y2 h) := by
  intro q
  induction q with
  | zero =>
    intro y0 y1 y2 h e
    exact e
  | succ q ih =>
    intro y0 y1 y2 h e
    exact (EQ_if e (ih _ _ _ _ (EQ_s rfl e)))
theorem frF_FJ7_fill_53178_k29 {h0 : ph_H} (a1 : Int32) (h : ph_H) (e : EQ pF h0 h) : EQ pF h0 (FJ7_fill_53178_k29 a1 h) := (frF_FJ7_fill_53178_k29_5   _ _ _ _ _ e)
theorem frF_FX3_begin_on_52 {h0 : ph_H} (x2 : Int32) (h : ph_H) (e : EQ pF h0 h) : EQ pF h0 (FX3_begin_on_52 x2 h) := (EQ_s rfl (EQ_s rfl (EQ_s rfl (EQ_s rfl e))))
theorem frF_FX3_begin_on_44 {h0 : ph_H} (x2 : Int32) (h : ph_H) (e : EQ pF h0 h) : EQ pF h0 (FX3_begin_on_44 x2 h) := (frF_FX3_begin_on_52 _  _ (frF_FJ7_fill_53178_k29 _  _ e))
theorem frF_FX3_begin_on_21 {h0 : ph_H} (x2 : Int32) (h : ph_H) (e : EQ pF h0 h) : EQ pF h0 (FX3_begin_on_21 x2 h) := (frF_FX3_begin_on_44 _  _ (frF_FJ7_fill_53178_k28 _  _ (EQ_c (fun _ => rfl) e)))
theorem frF_FX3_begin_on_13 {h0 : ph_H} (x2 : Int32) (h : ph_H) (e : EQ pF h0 h) : EQ pF h0 (FX3_begin_on_13 x2 h) := (frF_FX3_begin_on_21 _  _ (frF_FJ7_fill_53178_k27 _  _ e))
theorem frF_FX3_begin_on {h0 : ph_H} (a1 : Int32) (h : ph_H) (e : EQ pF h0 h) : EQ pF h0 (FX3_begin_on a1 h) := (frF_FX3_begin_on_13 _  _ (frF_FJ7_fill_53178_k26 _  _ e))
theorem frF_FX3_begin_onc1_52 {h0 : ph_H} (x2 : Int32) (h : ph_H) (e : EQ pF h0 h) : EQ pF h0 (FX3_begin_onc1_52 x2 h) := (EQ_s rfl (EQ_s rfl (EQ_s rfl (EQ_s rfl e))))
theorem frF_FX3_begin_onc1_44 {h0 : ph_H} (x2 : Int32) (h : ph_H) (e : EQ pF h0 h) : EQ pF h0 (FX3_begin_onc1_44 x2 h) := (frF_FX3_begin_onc1_52 _  _ (frF_FJ7_fill_53178_k29 _  _ e))
theorem frF_FX3_begin_onc1_21 {h0 : ph_H} (x2 : Int32) (h : ph_H) (e : EQ pF h0 h) : EQ pF h0 (FX3_begin_onc1_21 x2 h) := (frF_FX3_begin_onc1_44 _  _ (frF_FJ7_fill_53178_k28 _  _ (EQ_c (fun _ => rfl) e)))
theorem frF_FX3_begin_onc1_13 {h0 : ph_H} (x2 : Int32) (h : ph_H) (e : EQ pF h0 h) : EQ pF h0 (FX3_begin_onc1_13 x2 h) := (frF_FX3_begin_onc1_21 _  _ (frF_FJ7_fill_53178_k27 _  _ e))
theorem frF_FX3_begin_onc1 {h0 : ph_H} (a1 : Int32) (h : ph_H) (e : EQ pF h0 h) : EQ pF h0 (FX3_begin_onc1 a1 h) := (frF_FX3_begin_onc1_13 _  _ (frF_FJ7_fill_53178_k26 _  _ e))
def pR1 (k i : Nat) : Bool := match k with
  | 1 => true
  | 2 => true
  | 3 => true
  | 4 => true
  | 5 => true
  | 6 => true
  | 7 => true
  | 52 => i == 6 || i == 9 || i == 10
  | 54 => true
  | 55 => true
  | _ => false
theorem pR1_57 (n i : Nat) : pR1 (57 + n) i = false := by
  unfold pR1
  split <;> first | omega | rfl
theorem frR_FX3_hold_oc1 {h0 : ph_H} (a0 : Int32) (a1 : Int32) (a2 : Int32) (h : ph_H) (e : EQ pR1 h0 h) : EQ pR1 h0 (FX3_hold_oc1 a0 a1 a2 h).2 := (EQ_s rfl (EQ_s rfl e))
theorem frR_FX3_getCell_oc1 {h0 : ph_H} (a0 : Int32) (a1 : Int32) (h : ph_H) (e : EQ pR1 h0 h) : EQ pR1 h0 (FX3_getCell_oc1 a0 a1 h).2 := (frR_FX3_hold_oc1 _ _ _  _ (EQ_s rfl e))
theorem frR_FX3_goTo_oc1 {h0 : ph_H} (a0 : Int32) (h : ph_H) (e : EQ pR1 h0 h) : EQ pR1 h0 (FX3_goTo_oc1 a0 h).2 := (EQ_s rfl e)
theorem frR_FX3_goUnless_oc1_25 {h0 : ph_H} (s0 : Int32) (h : ph_H) (e : EQ pR1 h0 h) : EQ pR1 h0 (FX3_goUnless_oc1_25 s0 h).2 := e
theorem frR_FX3_goUnless_oc1 {h0 : ph_H} (a0 : Int32) (a1 : Int32) (h : ph_H) (e : EQ pR1 h0 h) : EQ pR1 h0 (FX3_goUnless_oc1 a0 a1 h).2 := (EQ2_if (EQ2_if (frR_FX3_goUnless_oc1_25 _  _ (frR_FX3_goTo_oc1 _  _ e)) e) e)
theorem frR_FX3_free_oc1 {h0 : ph_H} (a0 : Int32) (h : ph_H) (e : EQ pR1 h0 h) : EQ pR1 h0 (FX3_free_oc1 a0 h).2 := (EQ_s rfl (EQ_s rfl (EQ_s rfl e)))
theorem frR_FX3_leaveLock_oc1 {h0 : ph_H} (a0 : Int32) (a1 : Int32) (h : ph_H) (e : EQ pR1 h0 h) : EQ pR1 h0 (FX3_leaveLock_oc1 a0 a1 h).2 := (EQ2_if (EQ2_if (frR_FX3_free_oc1 _  _ e) e) e)
theorem frR_FX3_lieDown_oc1 {h0 : ph_H} (a0 : Int32) (a1 : Int32) (h : ph_H) (e : EQ pR1 h0 h) : EQ pR1 h0 (FX3_lieDown_oc1 a0 a1 h).2 := (EQ2_if (EQ2_if (frR_FX3_free_oc1 _  _ (EQ_s rfl (EQ_s rfl (EQ_s rfl e)))) e) e)
theorem frR_FX3_makeThing_oc1 {h0 : ph_H} (a0 : Int32) (a1 : Int32) (a2 : Int32) (h : ph_H) (e : EQ pR1 h0 h) : EQ pR1 h0 (FX3_makeThing_oc1 a0 a1 a2 h).2 := (EQ_s rfl (EQ_s rfl (EQ_s rfl (EQ_s rfl (EQ_s rfl (EQ_s rfl e))))))
theorem frR_FX3_makeLock_oc1_22 {h0 : ph_H} (s0 : Int32) (s1 : Int32) (h : ph_H) (e : EQ pR1 h0 h) : EQ pR1 h0 (FX3_makeLock_oc1_22 s0 s1 h).2 := (frR_FX3_makeThing_oc1 _ _ _  _ e)
theorem frR_FX3_makeLock_oc1 {h0 : ph_H} (a0 : Int32) (a1 : Int32) (h : ph_H) (e : EQ pR1 h0 h) : EQ pR1 h0 (FX3_makeLock_oc1 a0 a1 h).2 := (EQ2_if (EQ2_if (frR_FX3_makeLock_oc1_22 _ _  _ e) (frR_FX3_makeLock_oc1_22 _ _  _ e)) e)
theorem frR_FX3_makeRow_oc1_44 {h0 : ph_H}  : ∀ (q : Nat) (y0 : Int32) (y1 : Int32) (y2 : Int32) (h : ph_H), EQ pR1 h0 h → EQ pR1 h0 (FX3_makeRow_oc1_44  q y0 y1 y2 h).2 := by
  intro q
  induction q with
  | zero =>
    intro y0 y1 y2 h e
    exact e
  | succ q ih =>
    intro y0 y1 y2 h e
    exact (EQ2_if (frR_FX3_makeThing_oc1 _ _ _  _ e) (ih _ _ _ _ (EQ_s rfl e)))
theorem frR_FX3_makeRow_oc1 {h0 : ph_H} (a0 : Int32) (a1 : Int32) (h : ph_H) (e : EQ pR1 h0 h) : EQ pR1 h0 (FX3_makeRow_oc1 a0 a1 h).2 := (EQ2_if (EQ2_if (EQ2_if e (EQ2_if (frR_FX3_makeRow_oc1_44   _ _ _ _ _ e) e)) e) e)
theorem frR_FX3_putCell_oc1 {h0 : ph_H} (a0 : Int32) (a1 : Int32) (h : ph_H) (e : EQ pR1 h0 h) : EQ pR1 h0 (FX3_putCell_oc1 a0 a1 h).2 := (frR_FX3_hold_oc1 _ _ _  _ (EQ_s rfl e))
theorem frR_FX3_readRow_oc1 {h0 : ph_H} (a0 : Int32) (a1 : Int32) (a2 : Int32) (h : ph_H) (e : EQ pR1 h0 h) : EQ pR1 h0 (FX3_readRow_oc1 a0 a1 a2 h).2 := (EQ2_if (EQ2_if (EQ2_if e (frR_FX3_hold_oc1 _ _ _  _ (EQ_s rfl e))) e) e)
theorem frR_FX3_reckon_oc1_58 {h0 : ph_H} (x2 : Int32) (s0 : Int32) (h : ph_H) (e : EQ pR1 h0 h) : EQ pR1 h0 (FX3_reckon_oc1_58 x2 s0 h).2 := (frR_FX3_hold_oc1 _ _ _  _ e)
theorem frR_FX3_reckon_oc1 {h0 : ph_H} (a0 : Int32) (a1 : Int32) (a2 : Int32) (h : ph_H) (e : EQ pR1 h0 h) : EQ pR1 h0 (FX3_reckon_oc1 a0 a1 a2 h).2 := (EQ2_if e (EQ2_if (frR_FX3_reckon_oc1_58 _ _  _ e) (EQ2_if (frR_FX3_reckon_oc1_58 _ _  _ e) (frR_FX3_reckon_oc1_58 _ _  _ e))))
theorem frR_FX3_startThread_oc1 {h0 : ph_H} (a0 : Int32) (h : ph_H) (e : EQ pR1 h0 h) : EQ pR1 h0 (FX3_startThread_oc1 a0 h).2 := (EQ2_if (EQ_s rfl (EQ_s rfl (EQ_s rfl e))) e)
theorem frR_FX3_takeInput_oc1 {h0 : ph_H} (a0 : Int32) (h : ph_H) (e : EQ pR1 h0 h) : EQ pR1 h0 (FX3_takeInput_oc1 a0 h).2 := (EQ2_if e (EQ2_if (frR_FX3_hold_oc1 _ _ _  _ (EQ_s rfl e)) e))
theorem frR_FX3_own_oc1 {h0 : ph_H} (a0 : Int32) (a1 : Int32) (h : ph_H) (e : EQ pR1 h0 h) : EQ pR1 h0 (FX3_own_oc1 a0 a1 h).2 := (EQ_s rfl (EQ_s rfl (EQ_s rfl e)))
theorem frR_FX3_takeLock_oc1 {h0 : ph_H} (a0 : Int32) (a1 : Int32) (h : ph_H) (e : EQ pR1 h0 h) : EQ pR1 h0 (FX3_takeLock_oc1 a0 a1 h).2 := (EQ2_if (EQ2_if e (frR_FX3_own_oc1 _ _  _ e)) e)
theorem frR_FX3_wakeSleepers_oc1_64 {h0 : ph_H} (L28 : Int32 → Int32 → ph_H → Int32 × ph_H) (x3 : Int32) (x4 : Int32) (hL28 : ∀ (y0 : Int32) (y1 : Int32) (h : ph_H), EQ pR1 h0 h → EQ pR1 h0 (L28 y0 y1 h).2) (h : ph_H) (e : EQ pR1 h0 h) : EQ pR1 h0 (FX3_wakeSleepers_oc1_64 L28 x3 x4 h).2 := (hL28 _ _ _ e)
theorem frR_FX3_wakeSleepers_oc1_28 {h0 : ph_H}  : ∀ (q : Nat) (y0 : Int32) (y1 : Int32) (h : ph_H), EQ pR1 h0 h → EQ pR1 h0 (FX3_wakeSleepers_oc1_28  q y0 y1 h).2 := by
  intro q
  induction q with
  | zero =>
    intro y0 y1 h e
    exact e
  | succ q ih =>
    intro y0 y1 h e
    exact (EQ2_if (EQ_s rfl e) (EQ2_if (EQ2_if (frR_FX3_wakeSleepers_oc1_64 _ _ _ ih _ (EQ_s rfl e)) (frR_FX3_wakeSleepers_oc1_64 _ _ _ ih _ e)) (frR_FX3_wakeSleepers_oc1_64 _ _ _ ih _ e)))
theorem frR_FX3_wakeSleepers_oc1 {h0 : ph_H} (a0 : Int32) (a1 : Int32) (h : ph_H) (e : EQ pR1 h0 h) : EQ pR1 h0 (FX3_wakeSleepers_oc1 a0 a1 h).2 := (EQ2_if (EQ2_if (frR_FX3_wakeSleepers_oc1_28   _ _ _ _ e) e) e)
theorem frR_FX3_writeRow_oc1 {h0 : ph_H} (a0 : Int32) (a1 : Int32) (a2 : Int32) (h : ph_H) (e : EQ pR1 h0 h) : EQ pR1 h0 (FX3_writeRow_oc1 a0 a1 a2 h).2 := (EQ2_if (EQ2_if e (EQ2_if e (EQ_s rfl (EQ_s rfl e)))) e)
theorem frR_FX3_perform_oc1_288 {h0 : ph_H} (s0 : Int32) (s1 : Int32) (h : ph_H) (e : EQ pR1 h0 h) : EQ pR1 h0 (FX3_perform_oc1_288 s0 s1 h).2 := (frR_FX3_makeLock_oc1 _ _  _ e)
theorem frR_FX3_perform_oc1 {h0 : ph_H} (a0 : Int32) (h : ph_H) (e : EQ pR1 h0 h) : EQ pR1 h0 (FX3_perform_oc1 a0 h).2 := (EQ2_if (frR_FX3_hold_oc1 _ _ _  _ e) (EQ2_if (frR_FX3_getCell_oc1 _ _  _ e) (EQ2_if (frR_FX3_putCell_oc1 _ _  _ e) (EQ2_if (frR_FX3_reckon_oc1 _ _ _  _ e) (EQ2_if (frR_FX3_reckon_oc1 _ _ _  _ e) (EQ2_if (frR_FX3_reckon_oc1 _ _ _  _ e) (EQ2_if (frR_FX3_goTo_oc1 _  _ e) (EQ2_if (frR_FX3_goUnless_oc1 _ _  _ e) (EQ2_if (frR_FX3_makeRow_oc1 _ _  _ e) (EQ2_if (frR_FX3_readRow_oc1 _ _ _  _ e) (EQ2_if (frR_FX3_writeRow_oc1 _ _ _  _ e) (EQ2_if (EQ2_if (frR_FX3_perform_oc1_288 _ _  _ e) (frR_FX3_perform_oc1_288 _ _  _ e)) (EQ2_if (frR_FX3_takeLock_oc1 _ _  _ e) (EQ2_if (frR_FX3_leaveLock_oc1 _ _  _ e) (EQ2_if (frR_FX3_lieDown_oc1 _ _  _ e) (EQ2_if (frR_FX3_wakeSleepers_oc1 _ _  _ e) (EQ2_if (frR_FX3_takeInput_oc1 _  _ e) (EQ2_if (frR_FX3_startThread_oc1 _  _ e) (EQ2_if e (frR_FX3_goTo_oc1 _  _ e))))))))))))))))))))
theorem frR_FX3_rise_oc1 {h0 : ph_H} (a0 : Int32) (h : ph_H) (e : EQ pR1 h0 h) : EQ pR1 h0 (FX3_rise_oc1 a0 h).2 := (frR_FX3_own_oc1 _ _  _ (EQ_s rfl e))
theorem frR_FX3_go_oc1_67 {h0 : ph_H} (x1 : Int32) (s0 : Int32) (h : ph_H) (e : EQ pR1 h0 h) : EQ pR1 h0 (FX3_go_oc1_67 x1 s0 h).2 := (EQ2_if (EQ_s rfl e) e)
theorem frR_FX3_go_oc1_59 {h0 : ph_H} (x1 : Int32) (s0 : Int32) (h : ph_H) (e : EQ pR1 h0 h) : EQ pR1 h0 (FX3_go_oc1_59 x1 s0 h).2 := (frR_FX3_go_oc1_67 _ _  _ e)
theorem frR_FX3_go_oc1 {h0 : ph_H} (a0 : Int32) (h : ph_H) (e : EQ pR1 h0 h) : EQ pR1 h0 (FX3_go_oc1 a0 h).2 := (EQ2_if e (EQ2_if (frR_FX3_go_oc1_59 _ _  _ (frR_FX3_rise_oc1 _  _ (EQ_s rfl (EQ_s rfl (EQ_s rfl (EQ_s rfl (EQ_s rfl e))))))) (frR_FX3_go_oc1_67 _ _  _ (frR_FX3_perform_oc1 _  _ (EQ_s rfl (EQ_s rfl (EQ_s rfl (EQ_s rfl (EQ_s rfl e)))))))))
theorem frR_FJ7_fill_53178_k26_5 {h0 : ph_H}  : ∀ (q : Nat) (y0 : Int32) (y1 : Int32) (y2 : Int32) (h : ph_H), EQ pR1 h0 h → EQ pR1 h0 (FJ7_fill_53178_k26_5  q y0 y1 y2 h) := by
  intro q
  induction q with
  | zero =>
    intro y0 y1 y2 h e
    exact e
  | succ q ih =>
    intro y0 y1 y2 h e
    exact (EQ_if e (ih _ _ _ _ (EQ_s rfl e)))
theorem frR_FJ7_fill_53178_k26 {h0 : ph_H} (a1 : Int32) (h : ph_H) (e : EQ pR1 h0 h) : EQ pR1 h0 (FJ7_fill_53178_k26 a1 h) := (frR_FJ7_fill_53178_k26_5   _ _ _ _ _ e)
theorem frR_FJ7_fill_53178_k27_5 {h0 : ph_H}  : ∀ (q : Nat) (y0 : Int32) (y1 : Int32) (y2 : Int32) (h : ph_H), EQ pR1 h0 h → EQ pR1 h0 (FJ7_fill_53178_k27_5  q y0 y1 y2 h) := by
  intro q
  induction q with
  | zero =>
    intro y0 y1 y2 h e
    exact e
  | succ q ih =>
    intro y0 y1 y2 h e
    exact (EQ_if e (ih _ _ _ _ (EQ_s rfl e)))
theorem frR_FJ7_fill_53178_k27 {h0 : ph_H} (a1 : Int32) (h : ph_H) (e : EQ pR1 h0 h) : EQ pR1 h0 (FJ7_fill_53178_k27 a1 h) := (frR_FJ7_fill_53178_k27_5   _ _ _ _ _ e)
theorem frR_FJ7_fill_53178_k28_5 {h0 : ph_H}  : ∀ (q : Nat) (y0 : Int32) (y1 : Int32) (y2 : Int32) (h : ph_H), EQ pR1 h0 h → EQ pR1 h0 (FJ7_fill_53178_k28_5  q y0 y1 y2 h) := by
  intro q
  induction q with
  | zero =>
    intro y0 y1 y2 h e
    exact e
  | succ q ih =>
    intro y0 y1 y2 h e
    exact (EQ_if e (ih _ _ _ _ (EQ_s rfl e)))
theorem frR_FJ7_fill_53178_k28 {h0 : ph_H} (a1 : Int32) (h : ph_H) (e : EQ pR1 h0 h) : EQ pR1 h0 (FJ7_fill_53178_k28 a1 h) := (frR_FJ7_fill_53178_k28_5   _ _ _ _ _ e)
theorem frR_FJ7_fill_53178_k29_5 {h0 : ph_H}  : ∀ (q : Nat) (y0 : Int32) (y1 : Int32) (y2 : Int32) (h : ph_H), EQ pR1 h0 h → EQ pR1 h0 (FJ7_fill_53178_k29_5  q y0 y1 y2 h) := by
  intro q
  induction q with
  | zero =>
    intro y0 y1 y2 h e
    exact e
  | succ q ih =>
    intro y0 y1 y2 h e
    exact (EQ_if e (ih _ _ _ _ (EQ_s rfl e)))
theorem frR_FJ7_fill_53178_k29 {h0 : ph_H} (a1 : Int32) (h : ph_H) (e : EQ pR1 h0 h) : EQ pR1 h0 (FJ7_fill_53178_k29 a1 h) := (frR_FJ7_fill_53178_k29_5   _ _ _ _ _ e)
theorem frR_FX3_begin_on_52 {h0 : ph_H} (x2 : Int32) (h : ph_H) (e : EQ pR1 h0 h) : EQ pR1 h0 (FX3_begin_on_52 x2 h) := (EQ_s rfl (EQ_s rfl (EQ_s rfl (EQ_s rfl e))))
theorem frR_FX3_begin_on_44 {h0 : ph_H} (x2 : Int32) (h : ph_H) (e : EQ pR1 h0 h) : EQ pR1 h0 (FX3_begin_on_44 x2 h) := (frR_FX3_begin_on_52 _  _ (frR_FJ7_fill_53178_k29 _  _ e))
theorem frR_FX3_begin_on_21 {h0 : ph_H} (x2 : Int32) (h : ph_H) (e : EQ pR1 h0 h) : EQ pR1 h0 (FX3_begin_on_21 x2 h) := (frR_FX3_begin_on_44 _  _ (frR_FJ7_fill_53178_k28 _  _ (EQ_c (fun _ => rfl) e)))
theorem frR_FX3_begin_on_13 {h0 : ph_H} (x2 : Int32) (h : ph_H) (e : EQ pR1 h0 h) : EQ pR1 h0 (FX3_begin_on_13 x2 h) := (frR_FX3_begin_on_21 _  _ (frR_FJ7_fill_53178_k27 _  _ e))
theorem frR_FX3_begin_on {h0 : ph_H} (a1 : Int32) (h : ph_H) (e : EQ pR1 h0 h) : EQ pR1 h0 (FX3_begin_on a1 h) := (frR_FX3_begin_on_13 _  _ (frR_FJ7_fill_53178_k26 _  _ e))
theorem frR_FX6_goThrough_97 {h0 : ph_H} (L37 : Int32 → Int32 → ph_H → ph_H) (x1 : Int32) (x2 : Int32) (s0 : Int32) (hL37 : ∀ (y0 : Int32) (y1 : Int32) (h : ph_H), EQ pR1 h0 h → EQ pR1 h0 (L37 y0 y1 h)) (h : ph_H) (e : EQ pR1 h0 h) : EQ pR1 h0 (FX6_goThrough_97 L37 x1 x2 s0 h) := (hL37 _ _ _ (EQ_s rfl (EQ_s rfl e)))
theorem frR_FX6_goThrough_82 {h0 : ph_H} (L37 : Int32 → Int32 → ph_H → ph_H) (x1 : Int32) (x2 : Int32) (hL37 : ∀ (y0 : Int32) (y1 : Int32) (h : ph_H), EQ pR1 h0 h → EQ pR1 h0 (L37 y0 y1 h)) (h : ph_H) (e : EQ pR1 h0 h) : EQ pR1 h0 (FX6_goThrough_82 L37 x1 x2 h) := (frR_FX6_goThrough_97 _ _ _ _ hL37 _ (frR_FX3_go_oc1 _  _ e))
theorem frR_FX6_goThrough_122 {h0 : ph_H} (x1 : Int32) (h : ph_H) (e : EQ pR1 h0 h) : EQ pR1 h0 (FX6_goThrough_122 x1 h) := (EQ_if e (EQ_s rfl e))
theorem frR_FX6_goThrough_37 {h0 : ph_H}  : ∀ (q : Nat) (y0 : Int32) (y1 : Int32) (h : ph_H), EQ pR1 h0 h → EQ pR1 h0 (FX6_goThrough_37  q y0 y1 h) := by
  intro q
  induction q with
  | zero =>
    intro y0 y1 h e
    exact e
  | succ q ih =>
    intro y0 y1 h e
    exact (EQ_if (frR_FX6_goThrough_122 _  _ e) (EQ_if (frR_FX6_goThrough_122 _  _ e) (EQ_if (EQ_if (frR_FX6_goThrough_82 _ _ _ ih _ e) (frR_FX6_goThrough_82 _ _ _ ih _ (EQ_s (pR1_57 _ _) e))) (frR_FX6_goThrough_122 _  _ e))))
theorem frR_FX6_goThrough_18 {h0 : ph_H} (x1 : Int32) (h : ph_H) (e : EQ pR1 h0 h) : EQ pR1 h0 (FX6_goThrough_18 x1 h) := (frR_FX6_goThrough_37   _ _ _ _ (EQ_s rfl (EQ_s rfl e)))
theorem frR_FX6_goThrough {h0 : ph_H} (a0 : Int32) (h : ph_H) (e : EQ pR1 h0 h) : EQ pR1 h0 (FX6_goThrough a0 h) := (frR_FX6_goThrough_18 _  _ (frR_FX3_begin_on _  _ e))
theorem frR_FX3_begin_onc1_52 {h0 : ph_H} (x2 : Int32) (h : ph_H) (e : EQ pR1 h0 h) : EQ pR1 h0 (FX3_begin_onc1_52 x2 h) := (EQ_s rfl (EQ_s rfl (EQ_s rfl (EQ_s rfl e))))
theorem frR_FX3_begin_onc1_44 {h0 : ph_H} (x2 : Int32) (h : ph_H) (e : EQ pR1 h0 h) : EQ pR1 h0 (FX3_begin_onc1_44 x2 h) := (frR_FX3_begin_onc1_52 _  _ (frR_FJ7_fill_53178_k29 _  _ e))
theorem frR_FX3_begin_onc1_21 {h0 : ph_H} (x2 : Int32) (h : ph_H) (e : EQ pR1 h0 h) : EQ pR1 h0 (FX3_begin_onc1_21 x2 h) := (frR_FX3_begin_onc1_44 _  _ (frR_FJ7_fill_53178_k28 _  _ (EQ_c (fun _ => rfl) e)))
theorem frR_FX3_begin_onc1_13 {h0 : ph_H} (x2 : Int32) (h : ph_H) (e : EQ pR1 h0 h) : EQ pR1 h0 (FX3_begin_onc1_13 x2 h) := (frR_FX3_begin_onc1_21 _  _ (frR_FJ7_fill_53178_k27 _  _ e))
theorem frR_FX3_begin_onc1 {h0 : ph_H} (a1 : Int32) (h : ph_H) (e : EQ pR1 h0 h) : EQ pR1 h0 (FX3_begin_onc1 a1 h) := (frR_FX3_begin_onc1_13 _  _ (frR_FJ7_fill_53178_k26 _  _ e))
theorem frR_FX6_goThroughc1_97 {h0 : ph_H} (L37 : Int32 → Int32 → ph_H → ph_H) (x1 : Int32) (x2 : Int32) (s0 : Int32) (hL37 : ∀ (y0 : Int32) (y1 : Int32) (h : ph_H), EQ pR1 h0 h → EQ pR1 h0 (L37 y0 y1 h)) (h : ph_H) (e : EQ pR1 h0 h) : EQ pR1 h0 (FX6_goThroughc1_97 L37 x1 x2 s0 h) := (hL37 _ _ _ (EQ_s rfl (EQ_s rfl e)))
theorem frR_FX6_goThroughc1_82 {h0 : ph_H} (L37 : Int32 → Int32 → ph_H → ph_H) (x1 : Int32) (x2 : Int32) (hL37 : ∀ (y0 : Int32) (y1 : Int32) (h : ph_H), EQ pR1 h0 h → EQ pR1 h0 (L37 y0 y1 h)) (h : ph_H) (e : EQ pR1 h0 h) : EQ pR1 h0 (FX6_goThroughc1_82 L37 x1 x2 h) := (frR_FX6_goThroughc1_97 _ _ _ _ hL37 _ (frR_FX3_go_oc1 _  _ e))
theorem frR_FX6_goThroughc1_122 {h0 : ph_H} (x1 : Int32) (h : ph_H) (e : EQ pR1 h0 h) : EQ pR1 h0 (FX6_goThroughc1_122 x1 h) := (EQ_if e (EQ_s rfl e))
theorem frR_FX6_goThroughc1_37 {h0 : ph_H}  : ∀ (q : Nat) (y0 : Int32) (y1 : Int32) (h : ph_H), EQ pR1 h0 h → EQ pR1 h0 (FX6_goThroughc1_37  q y0 y1 h) := by
  intro q
  induction q with
  | zero =>
    intro y0 y1 h e
    exact e
  | succ q ih =>
    intro y0 y1 h e
    exact (EQ_if (frR_FX6_goThroughc1_122 _  _ e) (EQ_if (frR_FX6_goThroughc1_122 _  _ e) (EQ_if (EQ_if (frR_FX6_goThroughc1_82 _ _ _ ih _ e) (frR_FX6_goThroughc1_82 _ _ _ ih _ (EQ_s (pR1_57 _ _) e))) (frR_FX6_goThroughc1_122 _  _ e))))
theorem frR_FX6_goThroughc1_18 {h0 : ph_H} (x1 : Int32) (h : ph_H) (e : EQ pR1 h0 h) : EQ pR1 h0 (FX6_goThroughc1_18 x1 h) := (frR_FX6_goThroughc1_37   _ _ _ _ (EQ_s rfl (EQ_s rfl e)))
theorem frR_FX6_goThroughc1 {h0 : ph_H} (a0 : Int32) (h : ph_H) (e : EQ pR1 h0 h) : EQ pR1 h0 (FX6_goThroughc1 a0 h) := (frR_FX6_goThroughc1_18 _  _ (frR_FX3_begin_onc1 _  _ e))
def pQ1 (k i : Nat) : Bool := match k with
  | 0 => i == 7 || i == 9 || i == 33 || i == 34 || i == 67 || i == 68 || i == 69 || i == 70 || i == 73 || i == 74
  | 1 => true
  | 2 => true
  | 3 => true
  | 4 => true
  | 5 => true
  | 6 => true
  | 7 => true
  | 8 => true
  | 9 => true
  | 36 => true
  | 40 => true
  | 41 => true
  | 42 => true
  | 43 => true
  | _ => false
theorem frQ_FX12_begin_36 {h0 : ph_H} (L2 : Int32 → ph_H → ph_H) (x1 : Int32) (s0 : Int32) (s1 : Int32) (hL2 : ∀ (y0 : Int32) (h : ph_H), EQ pQ1 h0 h → EQ pQ1 h0 (L2 y0 h)) (h : ph_H) (e : EQ pQ1 h0 h) : EQ pQ1 h0 (FX12_begin_36 L2 x1 s0 s1 h) := (hL2 _ _ (EQ_s rfl e))
theorem frQ_FX12_begin_85 {h0 : ph_H} (L45 : Int32 → ph_H → ph_H) (x1 : Int32) (s0 : Int32) (s1 : Int32) (hL45 : ∀ (y0 : Int32) (h : ph_H), EQ pQ1 h0 h → EQ pQ1 h0 (L45 y0 h)) (h : ph_H) (e : EQ pQ1 h0 h) : EQ pQ1 h0 (FX12_begin_85 L45 x1 s0 s1 h) := (hL45 _ _ (EQ_s rfl (EQ_s rfl (EQ_s rfl e))))
theorem frQ_FX12_begin_70 {h0 : ph_H} (L45 : Int32 → ph_H → ph_H) (x1 : Int32) (s0 : Int32) (s1 : Int32) (hL45 : ∀ (y0 : Int32) (h : ph_H), EQ pQ1 h0 h → EQ pQ1 h0 (L45 y0 h)) (h : ph_H) (e : EQ pQ1 h0 h) : EQ pQ1 h0 (FX12_begin_70 L45 x1 s0 s1 h) := (EQ_if (frQ_FX12_begin_85 _ _ _ _ hL45 _ (EQ_s rfl e)) (frQ_FX12_begin_85 _ _ _ _ hL45 _ (EQ_s rfl e)))
theorem frQ_FX12_begin_45 {h0 : ph_H}  : ∀ (q : Nat) (y0 : Int32) (h : ph_H), EQ pQ1 h0 h → EQ pQ1 h0 (FX12_begin_45  q y0 h) := by
  intro q
  induction q with
  | zero =>
    intro y0 h e
    exact e
  | succ q ih =>
    intro y0 h e
    exact (EQ_if (EQ_s rfl (EQ_s rfl (EQ_s rfl (EQ_s rfl (EQ_s rfl (EQ_s rfl e)))))) (EQ_if (frQ_FX12_begin_70 _ _ _ _ ih _ e) (frQ_FX12_begin_70 _ _ _ _ ih _ e)))
theorem frQ_FX12_begin_2 {h0 : ph_H}  : ∀ (q : Nat) (y0 : Int32) (h : ph_H), EQ pQ1 h0 h → EQ pQ1 h0 (FX12_begin_2  q y0 h) := by
  intro q
  induction q with
  | zero =>
    intro y0 h e
    exact e
  | succ q ih =>
    intro y0 h e
    exact (EQ_if (frQ_FX12_begin_45   _ _ _ e) (EQ_if (frQ_FX12_begin_36 _ _ _ _ ih _ (EQ_s rfl e)) (frQ_FX12_begin_36 _ _ _ _ ih _ (EQ_s rfl e))))
theorem frQ_FX12_begin {h0 : ph_H}  (h : ph_H) (e : EQ pQ1 h0 h) : EQ pQ1 h0 (FX12_begin h) := (frQ_FX12_begin_2   _ _ _ e)
theorem frQ_FX12_goTo_19 {h0 : ph_H} (s0 : Int32) (h : ph_H) (e : EQ pQ1 h0 h) : EQ pQ1 h0 (FX12_goTo_19 s0 h) := (EQ_s rfl e)
theorem frQ_FX12_goTo {h0 : ph_H} (a0 : Int32) (a1 : Int32) (h : ph_H) (e : EQ pQ1 h0 h) : EQ pQ1 h0 (FX12_goTo a0 a1 h) := (EQ_if (frQ_FX12_goTo_19 _  _ e) (EQ_if (EQ_s rfl e) (frQ_FX12_goTo_19 _  _ e)))
theorem frQ_FX12_set {h0 : ph_H} (a0 : Int32) (a1 : Int32) (a2 : Int32) (h : ph_H) (e : EQ pQ1 h0 h) : EQ pQ1 h0 (FX12_set a0 a1 a2 h) := (EQ_s rfl (EQ_s rfl e))
theorem frQ_FX12_newThing_29 {h0 : ph_H}  : ∀ (q : Nat) (y0 : Int32) (y1 : Int32) (h : ph_H), EQ pQ1 h0 h → EQ pQ1 h0 (FX12_newThing_29  q y0 y1 h).2 := by
  intro q
  induction q with
  | zero =>
    intro y0 y1 h e
    exact e
  | succ q ih =>
    intro y0 y1 h e
    exact (EQ2_if (EQ_s rfl e) (ih _ _ _ (EQ_s rfl e)))
theorem frQ_FX12_newThing {h0 : ph_H} (a0 : Int32) (a1 : Int32) (h : ph_H) (e : EQ pQ1 h0 h) : EQ pQ1 h0 (FX12_newThing a0 a1 h).2 := (frQ_FX12_newThing_29   _ _ _ _ (EQ_s rfl (EQ_s rfl (EQ_s rfl e))))
theorem frQ_FX12_work_88 {h0 : ph_H}  (h : ph_H) (e : EQ pQ1 h0 h) : EQ pQ1 h0 (FX12_work_88 h) := e
theorem frQ_FX12_work_111 {h0 : ph_H}  (h : ph_H) (e : EQ pQ1 h0 h) : EQ pQ1 h0 (FX12_work_111 h) := e
theorem frQ_FX12_work_134 {h0 : ph_H}  (h : ph_H) (e : EQ pQ1 h0 h) : EQ pQ1 h0 (FX12_work_134 h) := e
theorem frQ_FX12_work_155 {h0 : ph_H}  (h : ph_H) (e : EQ pQ1 h0 h) : EQ pQ1 h0 (FX12_work_155 h) := e
theorem frQ_FX12_work_152 {h0 : ph_H} (s0 : Int32) (s1 : Int32) (s2 : Int32) (h : ph_H) (e : EQ pQ1 h0 h) : EQ pQ1 h0 (FX12_work_152 s0 s1 s2 h) := (frQ_FX12_work_155   _ (frQ_FX12_set _ _ _  _ e))
theorem frQ_FX12_work_212 {h0 : ph_H}  (h : ph_H) (e : EQ pQ1 h0 h) : EQ pQ1 h0 (FX12_work_212 h) := e
theorem frQ_FX12_work_435 {h0 : ph_H} (L391 : Int32 → Int32 → ph_H → ph_H) (x3 : Int32) (x6 : Int32) (hL391 : ∀ (y0 : Int32) (y1 : Int32) (h : ph_H), EQ pQ1 h0 h → EQ pQ1 h0 (L391 y0 y1 h)) (h : ph_H) (e : EQ pQ1 h0 h) : EQ pQ1 h0 (FX12_work_435 L391 x3 x6 h) := (hL391 _ _ _ e)
theorem frQ_FX12_work_391 {h0 : ph_H}  : ∀ (q : Nat) (y0 : Int32) (y1 : Int32) (h : ph_H), EQ pQ1 h0 h → EQ pQ1 h0 (FX12_work_391  q y0 y1 h) := by
  intro q
  induction q with
  | zero =>
    intro y0 y1 h e
    exact e
  | succ q ih =>
    intro y0 y1 h e
    exact (EQ_if e (EQ_if (frQ_FX12_work_435 _ _ _ ih _ (EQ_s rfl (EQ_s rfl e))) (frQ_FX12_work_435 _ _ _ ih _ e)))
theorem frQ_FX12_work {h0 : ph_H} (a0 : Int32) (a1 : Int32) (a2 : Int32) (a3 : Int32) (a4 : Int32) (h : ph_H) (e : EQ pQ1 h0 h) : EQ pQ1 h0 (FX12_work a0 a1 a2 a3 a4 h) := (EQ_if (frQ_FX12_work_88   _ (frQ_FX12_set _ _ _  _ e)) (EQ_if (frQ_FX12_work_111   _ (frQ_FX12_set _ _ _  _ e)) (EQ_if (frQ_FX12_work_134   _ (frQ_FX12_set _ _ _  _ e)) (EQ_if e (EQ_if e (EQ_if (frQ_FX12_work_152 _ _ _  _ (frQ_FX12_newThing _ _  _ e)) (EQ_if (frQ_FX12_work_212   _ (frQ_FX12_set _ _ _  _ (EQ_s rfl e))) (EQ_if (EQ_s rfl (EQ_s rfl e)) (EQ_if e (EQ_if (EQ_s rfl (EQ_s rfl (EQ_s rfl e))) (EQ_if (EQ_s rfl (EQ_s rfl (EQ_s rfl e))) (EQ_if (EQ_s rfl (EQ_s rfl (EQ_s rfl (EQ_s rfl e)))) (EQ_if (frQ_FX12_work_391   _ _ _ _ (EQ_s rfl (EQ_s rfl e))) e)))))))))))))
theorem frQ_FX12_workPlain_116 {h0 : ph_H}  (h : ph_H) (e : EQ pQ1 h0 h) : EQ pQ1 h0 (FX12_workPlain_116 h) := e
theorem frQ_FX12_workPlain_153 {h0 : ph_H}  (h : ph_H) (e : EQ pQ1 h0 h) : EQ pQ1 h0 (FX12_workPlain_153 h) := e
theorem frQ_FX12_workPlain_191 {h0 : ph_H}  (h : ph_H) (e : EQ pQ1 h0 h) : EQ pQ1 h0 (FX12_workPlain_191 h) := e
theorem frQ_FX12_workPlain_222 {h0 : ph_H}  (h : ph_H) (e : EQ pQ1 h0 h) : EQ pQ1 h0 (FX12_workPlain_222 h) := e
theorem frQ_FX12_workPlain_219 {h0 : ph_H} (s0 : Int32) (s1 : Int32) (s2 : Int32) (h : ph_H) (e : EQ pQ1 h0 h) : EQ pQ1 h0 (FX12_workPlain_219 s0 s1 s2 h) := (frQ_FX12_workPlain_222   _ (frQ_FX12_set _ _ _  _ e))
theorem frQ_FX12_workPlain_206 {h0 : ph_H} (x3 : Int32) (s0 : Int32) (h : ph_H) (e : EQ pQ1 h0 h) : EQ pQ1 h0 (FX12_workPlain_206 x3 s0 h) := (frQ_FX12_workPlain_219 _ _ _  _ (frQ_FX12_newThing _ _  _ e))
theorem frQ_FX12_workPlain_259 {h0 : ph_H}  (h : ph_H) (e : EQ pQ1 h0 h) : EQ pQ1 h0 (FX12_workPlain_259 h) := (EQ_s rfl e)
theorem frQ_FX12_workPlain_256 {h0 : ph_H} (s0 : Int32) (s1 : Int32) (s2 : Int32) (h : ph_H) (e : EQ pQ1 h0 h) : EQ pQ1 h0 (FX12_workPlain_256 s0 s1 s2 h) := (frQ_FX12_workPlain_259   _ (frQ_FX12_set _ _ _  _ e))
theorem frQ_FX12_workPlain {h0 : ph_H} (a0 : Int32) (a1 : Int32) (a2 : Int32) (a3 : Int32) (h : ph_H) (e : EQ pQ1 h0 h) : EQ pQ1 h0 (FX12_workPlain a0 a1 a2 a3 h) := (EQ_if (frQ_FX12_workPlain_116   _ (frQ_FX12_set _ _ _  _ e)) (EQ_if (frQ_FX12_workPlain_153   _ (frQ_FX12_set _ _ _  _ (EQ_s rfl e))) (EQ_if (frQ_FX12_workPlain_191   _ (frQ_FX12_set _ _ _  _ (EQ_s rfl e))) (EQ_if e (EQ_if e (EQ_if e (EQ_if e (EQ_if e (EQ_if e (EQ_if e (EQ_if e (EQ_if (EQ_if (frQ_FX12_workPlain_206 _ _  _ e) (frQ_FX12_workPlain_206 _ _  _ e)) (EQ_if e (EQ_if e (EQ_if e (EQ_if e (EQ_if (EQ_if (frQ_FX12_workPlain_256 _ _ _  _ e) (frQ_FX12_workPlain_256 _ _ _  _ e)) (EQ_if (EQ_s rfl (EQ_s rfl (EQ_s rfl e))) e))))))))))))))))))
theorem frQ_FX12_instruct_251 {h0 : ph_H} (s0 : Int32) (s1 : Int32) (h : ph_H) (e : EQ pQ1 h0 h) : EQ pQ1 h0 (FX12_instruct_251 s0 s1 h) := (frQ_FX12_goTo _ _  _ e)
theorem frQ_FX12_instruct_204 {h0 : ph_H} (x1 : Int32) (x2 : Int32) (x6 : Int32) (x7 : Int32) (h : ph_H) (e : EQ pQ1 h0 h) : EQ pQ1 h0 (FX12_instruct_204 x1 x2 x6 x7 h) := (EQ_if e (EQ_if (frQ_FX12_instruct_251 _ _  _ e) (EQ_if (frQ_FX12_instruct_251 _ _  _ e) (frQ_FX12_instruct_251 _ _  _ e))))
theorem frQ_FX12_instruct_195 {h0 : ph_H} (x1 : Int32) (x2 : Int32) (x3 : Int32) (x4 : Int32) (x6 : Int32) (x7 : Int32) (h : ph_H) (e : EQ pQ1 h0 h) : EQ pQ1 h0 (FX12_instruct_195 x1 x2 x3 x4 x6 x7 h) := (frQ_FX12_instruct_204 _ _ _ _  _ (frQ_FX12_workPlain _ _ _ _  _ e))
theorem frQ_FX12_instruct_177 {h0 : ph_H} (x1 : Int32) (x2 : Int32) (x3 : Int32) (x4 : Int32) (x5 : Int32) (x6 : Int32) (s0 : Int32) (h : ph_H) (e : EQ pQ1 h0 h) : EQ pQ1 h0 (FX12_instruct_177 x1 x2 x3 x4 x5 x6 s0 h) := (frQ_FX12_instruct_195 _ _ _ _ _ _  _ (frQ_FX12_work _ _ _ _ _  _ e))
theorem frQ_FX12_instruct_149 {h0 : ph_H} (x1 : Int32) (x2 : Int32) (x3 : Int32) (x4 : Int32) (x5 : Int32) (s0 : Int32) (h : ph_H) (e : EQ pQ1 h0 h) : EQ pQ1 h0 (FX12_instruct_149 x1 x2 x3 x4 x5 s0 h) := (EQ_if (frQ_FX12_instruct_177 _ _ _ _ _ _ _  _ e) (frQ_FX12_instruct_177 _ _ _ _ _ _ _  _ e))
theorem frQ_FX12_instruct_144 {h0 : ph_H} (x1 : Int32) (x2 : Int32) (x3 : Int32) (x4 : Int32) (x5 : Int32) (h : ph_H) (e : EQ pQ1 h0 h) : EQ pQ1 h0 (FX12_instruct_144 x1 x2 x3 x4 x5 h) := (frQ_FX12_instruct_149 _ _ _ _ _ _  _ e)
theorem frQ_FX12_instruct_148 {h0 : ph_H} (x1 : Int32) (x2 : Int32) (x3 : Int32) (x4 : Int32) (x5 : Int32) (h : ph_H) (e : EQ pQ1 h0 h) : EQ pQ1 h0 (FX12_instruct_148 x1 x2 x3 x4 x5 h) := (frQ_FX12_instruct_149 _ _ _ _ _ _  _ e)
theorem frQ_FX12_instruct_102 {h0 : ph_H} (x1 : Int32) (x2 : Int32) (x3 : Int32) (x4 : Int32) (x5 : Int32) (s0 : Int32) (h : ph_H) (e : EQ pQ1 h0 h) : EQ pQ1 h0 (FX12_instruct_102 x1 x2 x3 x4 x5 s0 h) := (EQ_if (EQ_if (frQ_FX12_instruct_144 _ _ _ _ _  _ (EQ_s rfl e)) (EQ_if (EQ_if (frQ_FX12_instruct_144 _ _ _ _ _  _ (EQ_s rfl e)) (frQ_FX12_instruct_148 _ _ _ _ _  _ (EQ_s rfl e))) (frQ_FX12_instruct_148 _ _ _ _ _  _ (EQ_s rfl e)))) (EQ_s rfl e))
theorem frQ_FX12_instruct_98 {h0 : ph_H} (x1 : Int32) (x2 : Int32) (x3 : Int32) (x4 : Int32) (x5 : Int32) (h : ph_H) (e : EQ pQ1 h0 h) : EQ pQ1 h0 (FX12_instruct_98 x1 x2 x3 x4 x5 h) := (frQ_FX12_instruct_102 _ _ _ _ _ _  _ e)
theorem frQ_FX12_instruct {h0 : ph_H} (a0 : Int32) (a1 : Int32) (h : ph_H) (e : EQ pQ1 h0 h) : EQ pQ1 h0 (FX12_instruct a0 a1 h) := (EQ_if (EQ_if (frQ_FX12_instruct_98 _ _ _ _ _  _ (EQ_s rfl e)) (frQ_FX12_instruct_102 _ _ _ _ _ _  _ (EQ_s rfl e))) (frQ_FX12_instruct_98 _ _ _ _ _  _ (EQ_s rfl e)))
theorem frQ_FX12_step_154 {h0 : ph_H} (x1 : Int32) (h : ph_H) (e : EQ pQ1 h0 h) : EQ pQ1 h0 (FX12_step_154 x1 h) := (EQ_s rfl (EQ_s rfl e))
theorem frQ_FX12_step_110 {h0 : ph_H} (x1 : Int32) (h : ph_H) (e : EQ pQ1 h0 h) : EQ pQ1 h0 (FX12_step_110 x1 h) := (frQ_FX12_step_154 _  _ e)
theorem frQ_FX12_step_148 {h0 : ph_H} (x1 : Int32) (x2 : Int32) (h : ph_H) (e : EQ pQ1 h0 h) : EQ pQ1 h0 (FX12_step_148 x1 x2 h) := (frQ_FX12_step_154 _  _ (frQ_FX12_instruct _ _  _ e))
theorem frQ_FX12_step {h0 : ph_H} (a0 : Int32) (h : ph_H) (e : EQ pQ1 h0 h) : EQ pQ1 h0 (FX12_step a0 h) := (EQ_if (EQ_if (EQ_if (frQ_FX12_step_148 _ _  _ (EQ_s rfl (EQ_s rfl (EQ_s rfl (EQ_s rfl (EQ_s rfl (EQ_s rfl e))))))) (EQ_if (EQ_s rfl (EQ_s rfl (EQ_s rfl (EQ_s rfl (EQ_s rfl (EQ_s rfl (EQ_s rfl e))))))) (frQ_FX12_step_148 _ _  _ (EQ_s rfl (EQ_s rfl (EQ_s rfl (EQ_s rfl (EQ_s rfl (EQ_s rfl e))))))))) (frQ_FX12_step_148 _ _  _ (EQ_s rfl (EQ_s rfl (EQ_s rfl (EQ_s rfl (EQ_s rfl (EQ_s rfl e)))))))) (frQ_FX12_step_110 _  _ (frQ_FX12_goTo _ _  _ (EQ_s rfl (EQ_s rfl (EQ_s rfl (EQ_s rfl (EQ_s rfl (EQ_s rfl (EQ_s rfl (EQ_s rfl (EQ_s rfl (EQ_s rfl e)))))))))))))
theorem frQ_FX12_tryRun_38 {h0 : ph_H} (L12 : Int32 → Int32 → ph_H → Int32 × ph_H) (x1 : Int32) (hL12 : ∀ (y0 : Int32) (y1 : Int32) (h : ph_H), EQ pQ1 h0 h → EQ pQ1 h0 (L12 y0 y1 h).2) (h : ph_H) (e : EQ pQ1 h0 h) : EQ pQ1 h0 (FX12_tryRun_38 L12 x1 h).2 := (EQ2_if (hL12 _ _ _ e) (EQ2_if (EQ2_if e (EQ2_if e (EQ2_if e (EQ2_if e (EQ2_if e (hL12 _ _ _ e)))))) (hL12 _ _ _ e)))
theorem frQ_FX12_tryRun_127 {h0 : ph_H} (x1 : Int32) (h : ph_H) (e : EQ pQ1 h0 h) : EQ pQ1 h0 (FX12_tryRun_127 x1 h).2 := (EQ2_if e e)
theorem frQ_FX12_tryRun_12 {h0 : ph_H}  : ∀ (q : Nat) (y0 : Int32) (y1 : Int32) (h : ph_H), EQ pQ1 h0 h → EQ pQ1 h0 (FX12_tryRun_12  q y0 y1 h).2 := by
  intro q
  induction q with
  | zero =>
    intro y0 y1 h e
    exact e
  | succ q ih =>
    intro y0 y1 h e
    exact (EQ2_if (frQ_FX12_tryRun_127 _  _ e) (EQ2_if (EQ2_if (frQ_FX12_tryRun_127 _  _ e) (frQ_FX12_tryRun_38 _ _ ih _ (frQ_FX12_step _  _ e))) (frQ_FX12_tryRun_127 _  _ e)))
theorem frQ_FX12_tryRun_4 {h0 : ph_H}  (h : ph_H) (e : EQ pQ1 h0 h) : EQ pQ1 h0 (FX12_tryRun_4 h).2 := (frQ_FX12_tryRun_12   _ _ _ _ e)
theorem frQ_FX12_tryRun {h0 : ph_H}  (h : ph_H) (e : EQ pQ1 h0 h) : EQ pQ1 h0 (FX12_tryRun h).2 := (frQ_FX12_tryRun_4   _ (frQ_FX12_begin   _ e))
end MG_48_x28F3
section MG_48_x29B1n
/-! THE SLEEPERS haven't ended; cells change where they are written alone -/
def NW (g : ph_H) : Prop := ∀ t, t < 4 → 0 ≤ (g 14 t).toInt → ¬ g 12 t = 24
theorem w391_14 : ∀ (q : Nat) (a x : Int32) (g : ph_H) (u : Nat), FX12_work_391 q a x g 14 u = g 14 u ∨ FX12_work_391 q a x g 14 u = -1
  | 0, a, x, g, u => Or.inl rfl
  | q + 1, a, x, g, u => by
    unfold FX12_work_391 FX12_work_435
    split
    · exact Or.inl rfl
    · split
      · rcases w391_14 q a (x + 1) (hs (hs g 15 x.toNatClampNeg (g 14 x.toNatClampNeg)) 14 x.toNatClampNeg (-1)) u with e | e
        · rw [e]
          by_cases c : u = x.toNatClampNeg
          · subst c
            rw [hs_self]
            exact Or.inr rfl
          · rw [hs_o (fun w => c w.2), hs_o (by simp)]
            exact Or.inl rfl
        · exact Or.inr e
      · exact w391_14 q a (x + 1) g u
def S14 (g G : ph_H) : Prop := ∀ u, G 14 u = g 14 u ∨ G 14 u = -1
theorem S14_if {g a b : ph_H} {c : Prop} [Decidable c] (x : c → S14 g a) (y : ¬ c → S14 g b) : S14 g (if c then a else b) := by
  by_cases d : c
  · rw [if_pos d]
    exact x d
  · rw [if_neg d]
    exact y d
theorem S14_r (g : ph_H) : S14 g g := fun _ => Or.inl rfl
theorem S14_o {g G : ph_H} {k i : Nat} {v : Int32} (S : S14 g G) (n : ¬ k = 14) : S14 g (hs G k i v) := fun u => by
  rw [hs_o (fun e => n e.1.symm)]
  exact S u
theorem S14_nt {g G : ph_H} {k m : Int32} (S : S14 g G) : S14 g (FX12_newThing k m G).2 := fun u => by
  rw [frX_FX12_newThing (h0 := G) k m G (EQ_r G) 14 u rfl]
  exact S u
theorem work_14 {t o a b c : Int32} {g : ph_H} (n : ¬ o = 14) : S14 g (FX12_work t o a b c g) := by
  have e : S14 g (FX12_work_391 2000 a 0 (hs (hs g 0 31 3) 0 32 (g 11 a.toNatClampNeg))) := fun u => by
    rcases w391_14 2000 a 0 (hs (hs g 0 31 3) 0 32 (g 11 a.toNatClampNeg)) u with e | e
    · left
      rw [e, hs_o (by simp), hs_o (by simp)]
    · exact Or.inr e
  unfold FX12_work FX12_work_88 FX12_work_111 FX12_work_134 FX12_work_152 FX12_work_155 FX12_work_212 FX12_set
  repeat' (with_reducible refine S14_if (fun q => ?_) (fun q => ?_))
  all_goals first | exact S14_r g | exact e | contradiction | exact S14_o (S14_o (S14_r g) (by decide)) (by decide) | exact S14_o (S14_o (S14_nt (S14_r g)) (by decide)) (by decide) | exact S14_o (S14_o (S14_o (S14_r g) (by decide)) (by decide)) (by decide)
def lo12 (a : Int32) : Prop := 12 ≤ a.toNatClampNeg
theorem loc12 {t : Int32} (x : Int32) (g : ph_H) (ht : iv 0 3 t) : lo12 (FX12_local t x g) := by
  have m : iv 0 3 (FX12_modulo x 4) := modulo_iv (m := 4) rfl
  have k12 : (12 : Int32).toInt = 12 := by decide
  have k4 : (4 : Int32).toInt = 4 := by decide
  unfold iv at ht m
  unfold lo12 FX12_local
  have e1 : (4 * t).toInt = 4 * t.toInt := by rw [ti_mul (by rw [k4]; omega) (by rw [k4]; omega), k4]
  have e2 : (12 + 4 * t).toInt = 12 + 4 * t.toInt := by rw [ti_add (by omega) (by omega), k12, e1]
  have e3 : (12 + 4 * t + FX12_modulo x 4).toInt = 12 + 4 * t.toInt + (FX12_modulo x 4).toInt := by rw [ti_add (by omega) (by omega), e2]
  have : ((12 + 4 * t + FX12_modulo x 4).toNatClampNeg : Int) = (12 + 4 * t + FX12_modulo x 4).toInt := by
    rw [← Int32.toNat_toInt]
    omega
  omega
def SCc (g G : ph_H) : Prop := ∀ k, k < 12 → G 10 k = g 10 k ∧ G 11 k = g 11 k
theorem SCc_set {a v w : Int32} {g G : ph_H} (S : SCc g G) (n : lo12 a) : SCc g (FX12_set a v w G) := fun k hk => by
  have : ¬ k = a.toNatClampNeg := by unfold lo12 at n; omega
  unfold FX12_set
  rw [hs_o (by simp), hs_o (fun e => this e.2), hs_o (fun e => this e.2), hs_o (by simp)]
  exact S k hk
theorem SCc_o {g G : ph_H} {k i : Nat} {v : Int32} (S : SCc g G) (n : ¬ k = 10) (m : ¬ k = 11) : SCc g (hs G k i v) := fun j hj => by
  rw [hs_o (fun e => n e.1.symm), hs_o (fun e => m e.1.symm)]
  exact S j hj
theorem SCc_if {g a b : ph_H} {c : Prop} [Decidable c] (x : c → SCc g a) (y : ¬ c → SCc g b) : SCc g (if c then a else b) := by
  by_cases d : c
  · rw [if_pos d]
    exact x d
  · rw [if_neg d]
    exact y d
theorem SCc_r (g : ph_H) : SCc g g := fun _ _ => ⟨rfl, rfl⟩
theorem SCc_nt {g G : ph_H} {k m : Int32} (S : SCc g G) : SCc g (FX12_newThing k m G).2 := fun j hj => by
  rw [frY_FX12_newThing (h0 := G) k m G (EQ_r G) 10 j rfl, frY_FX12_newThing (h0 := G) k m G (EQ_r G) 11 j rfl]
  exact S j hj
theorem work_SCc {t o a b c : Int32} {g : ph_H} (n : lo12 a) : SCc g (FX12_work t o a b c g) := by
  have e : SCc g (FX12_work_391 2000 a 0 (hs (hs g 0 31 3) 0 32 (g 11 a.toNatClampNeg))) := fun j hj => by
    have f := frY_FX12_work_391 (h0 := hs (hs g 0 31 3) 0 32 (g 11 a.toNatClampNeg)) 2000 a 0 _ (EQ_r _)
    rw [f 10 j rfl, f 11 j rfl, hs_o (by simp), hs_o (by simp), hs_o (by simp), hs_o (by simp)]
    exact ⟨rfl, rfl⟩
  unfold FX12_work FX12_work_88 FX12_work_111 FX12_work_134 FX12_work_152 FX12_work_155 FX12_work_212
  repeat' (with_reducible refine SCc_if (fun q => ?_) (fun q => ?_))
  all_goals first | exact SCc_r g | exact e | exact SCc_set (SCc_r g) n | exact SCc_set (SCc_nt (SCc_r g)) n | exact SCc_set (SCc_o (SCc_r g) (by decide) (by decide)) n | exact SCc_o (SCc_o (SCc_r g) (by decide) (by decide)) (by decide) (by decide) | exact SCc_o (SCc_o (SCc_o (SCc_r g) (by decide) (by decide)) (by decide) (by decide)) (by decide) (by decide) | exact SCc_o (SCc_o (SCc_o (SCc_o (SCc_r g) (by decide) (by decide)) (by decide) (by decide)) (by decide) (by decide)) (by decide) (by decide)
def SW (g G : ph_H) : Prop := ∀ k, k < 12 → (G 10 k = g 10 k ∧ G 11 k = g 11 k) ∨ (G 0 30).toInt = k
theorem SW_if {g a b : ph_H} {c : Prop} [Decidable c] (x : c → SW g a) (y : ¬ c → SW g b) : SW g (if c then a else b) := by
  by_cases d : c
  · rw [if_pos d]
    exact x d
  · rw [if_neg d]
    exact y d
theorem SCc.sw {g G : ph_H} (S : SCc g G) : SW g G := fun k hk => Or.inl (S k hk)
theorem plain_SW {t i a b : Int32} {g G : ph_H} (S : SCc g G) (n : lo12 a) : SW g (FX12_workPlain t i a b G) := by
  have e : SW g (FX12_set (FX12_modulo (G 3 i.toNatClampNeg) 12) (G 10 b.toNatClampNeg) (G 11 b.toNatClampNeg) (hs G 0 30 (FX12_modulo (G 3 i.toNatClampNeg) 12))) := fun k hk => by
    have m : iv 0 11 (FX12_modulo (G 3 i.toNatClampNeg) 12) := modulo_iv (m := 12) rfl
    have mn := iv_nat m rfl
    unfold FX12_set
    by_cases c : k = (FX12_modulo (G 3 i.toNatClampNeg) 12).toNatClampNeg
    · right
      rw [hs_o (by simp), hs_o (by simp), hs_self]
      omega
    · left
      rw [hs_o (by simp), hs_o (fun e => c e.2), hs_o (by simp), hs_o (fun e => c e.2), hs_o (by simp), hs_o (by simp)]
      exact S k hk
  unfold FX12_workPlain FX12_workPlain_116 FX12_workPlain_153 FX12_workPlain_191 FX12_workPlain_206 FX12_workPlain_219 FX12_workPlain_222 FX12_workPlain_256 FX12_workPlain_259
  repeat' (with_reducible refine SW_if (fun q => ?_) (fun q => ?_))
  all_goals first | exact S.sw | exact e | exact (SCc_set S n).sw | exact (SCc_set (SCc_o S (by decide) (by decide)) n).sw | exact (SCc_set (SCc_nt S) n).sw | exact (SCc_o (SCc_set S n) (by decide) (by decide)).sw | exact (SCc_o (SCc_o (SCc_o S (by decide) (by decide)) (by decide) (by decide)) (by decide) (by decide)).sw
theorem goTo_o (t v : Int32) (g : ph_H) (k i : Nat) (n : ¬ (k = 12 ∧ i = t.toNatClampNeg)) : FX12_goTo t v g k i = g k i := by
  unfold FX12_goTo FX12_goTo_19
  repeat' split
  all_goals rw [hs_o n]
/-- what a step of t keeps -/
def KS' (t : Int32) (g G : ph_H) : Prop := (∀ u, ¬ u = t.toNatClampNeg → G 12 u = g 12 u ∧ (G 14 u = g 14 u ∨ G 14 u = -1)) ∧ ((G 14 t.toNatClampNeg = g 14 t.toNatClampNeg ∨ G 14 t.toNatClampNeg = -1) ∨ G 12 t.toNatClampNeg = g 12 t.toNatClampNeg) ∧ SW g G ∧ (0 < (G 0 25).toInt → SCc g G)
theorem ins_base {t i b c x6 s0 : Int32} {a : Int32} {g : ph_H} (n : lo12 a) (f : (g 0 25).toInt ≤ 0) : KS' t g (FX12_instruct_177 t i a b c x6 s0 g) := by
  unfold FX12_instruct_177 FX12_instruct_195 FX12_instruct_204 FX12_instruct_251
  generalize e1 : FX12_work t (g 2 i.toNatClampNeg) a b c g = G1
  have w := frW_FX12_work (h0 := g) t (g 2 i.toNatClampNeg) a b c g (EQ_r g)
  have p := frX_FX12_workPlain (h0 := G1) t i a b G1 (EQ_r G1)
  have S1 : SCc g G1 := by rw [← e1]; exact work_SCc n
  have S2 := plain_SW (t := t) (i := i) (b := b) S1 n
  rw [e1] at w
  have p2 : FX12_workPlain t i a b G1 2 i.toNatClampNeg = g 2 i.toNatClampNeg := (p 2 _ rfl).trans (w 2 _ rfl)
  have p12 : ∀ u, FX12_workPlain t i a b G1 12 u = g 12 u := fun u => (p 12 u rfl).trans (w 12 u rfl)
  have f25 : FX12_workPlain t i a b G1 0 25 = g 0 25 := (p 0 25 rfl).trans (w 0 25 rfl)
  have p14 : ∀ u, FX12_workPlain t i a b G1 14 u = G1 14 u := fun u => p 14 u rfl
  generalize FX12_workPlain t i a b G1 = G2 at *
  have fin : (∀ u, G2 14 u = g 14 u ∨ G2 14 u = -1) → ∀ v, KS' t g (FX12_goTo t v G2) := fun q v => by
    refine ⟨fun u hu => ?_, ?_, fun k hk => ?_, fun w => ?_⟩
    · rw [goTo_o _ _ _ _ _ (fun w => hu w.2), goTo_o _ _ _ _ _ (by simp), p12]
      exact ⟨rfl, q u⟩
    · left
      rw [goTo_o _ _ _ _ _ (by simp)]
      exact q _
    · rw [goTo_o _ _ _ _ _ (by simp), goTo_o _ _ _ _ _ (by simp), goTo_o _ _ _ _ _ (by simp)]
      exact S2 k hk
    · rw [goTo_o _ _ _ _ _ (by simp), f25] at w
      omega
  by_cases o : g 2 i.toNatClampNeg = 14
  · rw [p2, if_pos o]
    refine ⟨fun u hu => ⟨p12 u, ?_⟩, Or.inr (p12 _), S2, fun w => ?_⟩
    · left
      rw [p14, ← e1, o]
      unfold FX12_work
      simp (decide := true) only [↓reduceIte]
      rw [hs_o (by simp), hs_o (by simp), hs_o (fun w => hu w.2), hs_o (by simp)]
    · rw [f25] at w
      omega
  · rw [p2, if_neg o]
    have q : ∀ u, G2 14 u = g 14 u ∨ G2 14 u = -1 := fun u => by
      rw [p14, ← e1]
      exact work_14 (t := t) (a := a) (b := b) (c := c) (g := g) o u
    repeat' split
    all_goals exact fin q _
theorem KS_c {t : Int32} {g g' G G' : ph_H} (K : KS' t g G) (a : ∀ k i, (k = 10 ∨ k = 11 ∨ k = 12 ∨ k = 14) → g' k i = g k i) (b : ∀ k i, (k = 10 ∨ k = 11 ∨ k = 12 ∨ k = 14 ∨ (k = 0 ∧ (i = 25 ∨ i = 30))) → G' k i = G k i) : KS' t g' G' := by
  obtain ⟨k1, k2, k3, k4⟩ := K
  refine ⟨fun u hu => ?_, ?_, fun k hk => ?_, fun w k hk => ?_⟩
  · rw [a 12 u (by omega), a 14 u (by omega), b 12 u (by omega), b 14 u (by omega)]
    exact k1 u hu
  · rw [a 12 _ (by omega), a 14 _ (by omega), b 12 _ (by omega), b 14 _ (by omega)]
    exact k2
  · rw [a 10 k (by omega), a 11 k (by omega), b 10 k (by omega), b 11 k (by omega), b 0 30 (by omega)]
    exact k3 k hk
  · rw [b 0 25 (by omega)] at w
    rw [a 10 k (by omega), a 11 k (by omega), b 10 k (by omega), b 11 k (by omega)]
    exact k4 w k hk
theorem KS_r (t : Int32) (g : ph_H) : KS' t g g := ⟨fun _ _ => ⟨rfl, Or.inl rfl⟩, Or.inl (Or.inl rfl), (SCc_r g).sw, fun _ => SCc_r g⟩
theorem KS_0 {t : Int32} {g G : ph_H} (e : ∀ k i, (k = 10 ∨ k = 11 ∨ k = 12 ∨ k = 14) → G k i = g k i) : KS' t g G := by
  have S : SCc g G := fun k hk => ⟨e 10 k (by omega), e 11 k (by omega)⟩
  exact ⟨fun u hu => ⟨e 12 u (by omega), Or.inl (e 14 u (by omega))⟩, Or.inl (Or.inl (e 14 _ (by omega))), S.sw, fun _ => S⟩
theorem KS_go {t v : Int32} {g G : ph_H} (e : ∀ k i, (k = 10 ∨ k = 11 ∨ k = 12 ∨ k = 14) → G k i = g k i) : KS' t g (FX12_goTo t v G) := by
  have S : SCc g (FX12_goTo t v G) := fun k hk => by
    rw [goTo_o _ _ _ _ _ (by simp), goTo_o _ _ _ _ _ (by simp)]
    exact ⟨e 10 k (by omega), e 11 k (by omega)⟩
  refine ⟨fun u hu => ?_, Or.inl (Or.inl ?_), S.sw, fun _ => S⟩
  · rw [goTo_o _ _ _ _ _ (fun w => hu w.2), goTo_o _ _ _ _ _ (by simp)]
    exact ⟨e 12 u (by omega), Or.inl (e 14 u (by omega))⟩
  · rw [goTo_o _ _ _ _ _ (by simp)]
    exact e 14 _ (by omega)
theorem ins_KS {t i : Int32} {g : ph_H} (ht : iv 0 3 t) : KS' t g (FX12_instruct t i g) := by
  have k0 : (0 : Int32).toInt = 0 := by decide
  have A : ∀ (b c s0 : Int32) (G : ph_H), KS' t G (FX12_instruct_102 t i (FX12_local t (g 3 i.toNatClampNeg) g) b c s0 G) := fun b c s0 G => by
    have n := loc12 (g 3 i.toNatClampNeg) g ht
    have B : ∀ x6 y, s0 ≤ 0 → KS' t G (FX12_instruct_177 t i (FX12_local t (g 3 i.toNatClampNeg) g) b c x6 y (hs G 0 25 s0)) := fun x6 y l => KS_c (ins_base n (by rw [hs_self]; rw [Int32.le_iff_toInt_le, k0] at l; exact l)) (fun k j q => (hs_o (by omega)).symm) (fun _ _ _ => rfl)
    unfold FX12_instruct_102 FX12_instruct_144 FX12_instruct_148 FX12_instruct_149
    split
    · rename_i l
      repeat' split
      all_goals exact B _ _ l
    · exact ⟨fun u hu => by rw [hs_o (by simp), hs_o (by simp)]; exact ⟨rfl, Or.inl rfl⟩, Or.inl (Or.inl (hs_o (by simp))), (SCc_o (SCc_r G) (by decide) (by decide)).sw, fun _ => SCc_o (SCc_r G) (by decide) (by decide)⟩
  unfold FX12_instruct FX12_instruct_98
  repeat' split
  all_goals exact KS_c (A _ _ _ _) (fun k j q => (hs_o (by omega)).symm) (fun _ _ _ => rfl)
theorem step_KS {t : Int32} {g : ph_H} (ht : iv 0 3 t) : KS' t g (FX12_step t g) := by
  have A : ∀ (i : Int32) (G : ph_H), KS' t G (FX12_step_148 t i G) := fun i G => by
    unfold FX12_step_148 FX12_step_154
    exact KS_c (ins_KS ht) (fun _ _ _ => rfl) (fun k j q => by rw [hs_o (by omega), hs_o (by omega)])
  have Z : ∀ G : ph_H, (∀ k j, ¬ k = 0 → G k j = g k j) → ∀ i, KS' t g (FX12_step_148 t i G) := fun G e i => KS_c (A i G) (fun k j q => (e k j (by omega)).symm) (fun _ _ _ => rfl)
  unfold FX12_step
  split
  · split
    · split
      · exact Z _ (fun k j q => by simp only [hs_get, q, false_and, if_false]) _
      · split
        · exact KS_0 (fun k j q => by rw [hs_o (by omega), hs_o (by omega), hs_o (by omega), hs_o (by omega), hs_o (by omega), hs_o (by omega), hs_o (by omega)])
        · exact Z _ (fun k j q => by simp only [hs_get, q, false_and, if_false]) _
    · exact Z _ (fun k j q => by simp only [hs_get, q, false_and, if_false]) _
  · unfold FX12_step_110 FX12_step_154
    refine KS_c (KS_go (g := g) (v := g 12 t.toNatClampNeg + 1) ?_) (fun _ _ _ => rfl) (fun k j q => by rw [hs_o (by omega), hs_o (by omega)])
    intro k j q
    rw [hs_o (by omega), hs_o (by omega), hs_o (by omega), hs_o (by omega), hs_o (by omega), hs_o (by omega), hs_o (by omega), hs_o (by omega), hs_o (by omega), hs_o (by omega)]
theorem NW_sk {g : ph_H} {t : Int32} (ht : iv 0 3 t) (c : ¬ FX12_canGo t g = 0) (na : ¬ asksU t (cg1 t g)) (N : NW g) : NW (FX12_stepKept t g) := by
  obtain ⟨c13, c12, c14⟩ := cg_true c
  have k0 : (0 : Int32).toInt = 0 := by decide
  have km : (-1 : Int32).toInt = -1 := by decide
  rw [Int32.lt_iff_toInt_lt, k0] at c14
  obtain ⟨k1, k2, -, -⟩ := step_KS (g := cg1 t g) ht
  have e : ∀ u, cg1 t g 12 u = g 12 u ∧ cg1 t g 14 u = g 14 u := fun u => ⟨cg1_o t g _ _ (by decide) (by decide) (by omega), cg1_o t g _ _ (by decide) (by decide) (by omega)⟩
  intro u hu
  rw [sk_o na 14 u (by omega), sk_o na 12 u (by omega)]
  by_cases d : u = t.toNatClampNeg
  · subst d
    rw [(e _).1, (e _).2] at k2
    rcases k2 with (k | k) | k
    · rw [k]
      intro w
      omega
    · rw [k, km]
      intro w
      omega
    · rw [k]
      exact fun _ => c12
  · obtain ⟨a, b⟩ := k1 u d
    rw [(e u).1] at a
    rw [(e u).2] at b
    rw [a]
    rcases b with b | b
    · rw [b]
      exact N u hu
    · rw [b, km]
      intro w
      omega
/-- cells behind stepKept: as before, or the record says which was written -/
def CW (g G G' : ph_H) (s : Nat) : Prop := ∀ k, k < 12 → (G' 10 k = G 10 k ∧ G' 11 k = G 11 k) ∨ (g 33 s).toInt = k
theorem CW_sk {g : ph_H} {t : Int32} (ht : iv 0 3 t) (na : ¬ asksU t (cg1 t g)) : CW (FX12_stepKept t g) g (FX12_stepKept t g) (g 0 24 + 1).toNatClampNeg := by
  have k0 : (0 : Int32).toInt = 0 := by decide
  obtain ⟨x24, -⟩ := step_rec na
  rw [cg1_o t g _ _ (by decide) (by decide) (by decide)] at x24
  obtain ⟨-, -, k3, k4⟩ := step_KS (g := cg1 t g) ht
  have r : FX12_stepKept t g 33 (g 0 24 + 1).toNatClampNeg = if FX12_step t (cg1 t g) 0 25 ≤ 0 then FX12_step t (cg1 t g) 0 30 else -2 := by
    rw [sk_r 33 _ (by omega) (by omega)]
    unfold kW
    rw [kI_o _ _ 0 24 (by decide), kI_o _ _ 0 25 (by decide), kI_o _ _ 0 30 (by decide), x24]
    rw [hs_o (by simp), hs_o (by simp), hs_self]
  intro k hk
  rw [r, sk_o na 10 k (by omega), sk_o na 11 k (by omega)]
  have e10 := cg1_o t g 10 k (by decide) (by decide) (by omega)
  have e11 := cg1_o t g 11 k (by decide) (by decide) (by omega)
  by_cases d : FX12_step t (cg1 t g) 0 25 ≤ 0
  · rw [if_pos d, ← e10, ← e11]
    exact k3 k hk
  · left
    rw [Int32.le_iff_toInt_le, k0] at d
    rw [← e10, ← e11]
    exact k4 (by omega) k hk
theorem sk33 {g : ph_H} {t : Int32} (na : ¬ asksU t (cg1 t g)) : ∀ i, ¬ i = (g 0 24 + 1).toNatClampNeg → FX12_stepKept t g 33 i = g 33 i := by
  have fs := frS_FX12_step (h0 := cg1 t g) t (cg1 t g) (EQ_r _)
  obtain ⟨x24, -⟩ := step_rec na
  rw [cg1_o t g _ _ (by decide) (by decide) (by decide)] at x24
  intro i hi
  rw [sk_r 33 _ (by omega) (by omega), kW_o _ _ _ _ (by rw [kI_o _ _ 0 24 (by decide), x24]; omega), kI_o _ _ _ _ (by decide), fs 33 i rfl, cg1_o t g _ _ (by decide) (by decide) (by omega)]
/-! the INPUTS taken: one more at most -/
def S23 (g G : ph_H) : Prop := G 0 23 = g 0 23 ∨ G 0 23 = g 0 23 + 1
theorem S23_if {g a b : ph_H} {c : Prop} [Decidable c] (x : c → S23 g a) (y : ¬ c → S23 g b) : S23 g (if c then a else b) := by
  by_cases d : c
  · rw [if_pos d]
    exact x d
  · rw [if_neg d]
    exact y d
theorem S23_o {g G : ph_H} {k i : Nat} {v : Int32} (S : S23 g G) (n : ¬ (k = 0 ∧ i = 23)) : S23 g (hs G k i v) := by
  unfold S23
  rw [hs_o (fun e => n ⟨e.1.symm, e.2.symm⟩)]
  exact S
theorem nt29_23 : ∀ (q : Nat) (x y : Int32) (g : ph_H), (FX12_newThing_29 q x y g).2 0 23 = g 0 23
  | 0, x, y, g => rfl
  | q + 1, x, y, g => by
    unfold FX12_newThing_29
    split
    · dsimp only
      rw [hs_o (by simp)]
    · rw [nt29_23 q, hs_o (by simp)]
theorem nt_23 (k m : Int32) (g : ph_H) : (FX12_newThing k m g).2 0 23 = g 0 23 := by
  unfold FX12_newThing
  rw [nt29_23, hs_o (by simp), hs_o (by simp), hs_o (by simp)]
theorem plain_23 {t i a b : Int32} (G : ph_H) : S23 G (FX12_workPlain t i a b G) := by
  have r : S23 G G := Or.inl rfl
  have n : ∀ k m, S23 G (FX12_newThing k m G).2 := fun k m => Or.inl (nt_23 k m G)
  have z : ∀ v w : Int32, S23 G (hs (hs (hs G 10 a.toNatClampNeg v) 11 a.toNatClampNeg w) 0 23 ((hs (hs G 10 a.toNatClampNeg v) 11 a.toNatClampNeg w) 0 23 + 1)) := fun v w => by
    right
    rw [hs_self, hs_o (by simp), hs_o (by simp)]
  unfold FX12_workPlain FX12_workPlain_116 FX12_workPlain_153 FX12_workPlain_191 FX12_workPlain_206 FX12_workPlain_219 FX12_workPlain_222 FX12_workPlain_256 FX12_workPlain_259 FX12_set
  repeat' (with_reducible refine S23_if (fun q => ?_) (fun q => ?_))
  all_goals first | exact r | exact z _ _ | exact S23_o (S23_o r (by simp)) (by simp) | exact S23_o (S23_o (S23_o r (by simp)) (by simp)) (by simp) | exact S23_o (S23_o (n _ _) (by simp)) (by simp)
theorem base_23 {t i a b c x6 s0 : Int32} (g : ph_H) : S23 g (FX12_instruct_177 t i a b c x6 s0 g) := by
  unfold FX12_instruct_177 FX12_instruct_195 FX12_instruct_204 FX12_instruct_251
  have w := frW_FX12_work (h0 := g) t (g 2 i.toNatClampNeg) a b c g (EQ_r g) 0 23 rfl
  have p := plain_23 (t := t) (i := i) (a := a) (b := b) (FX12_work t (g 2 i.toNatClampNeg) a b c g)
  generalize FX12_workPlain t i a b (FX12_work t (g 2 i.toNatClampNeg) a b c g) = G at *
  unfold S23 at p
  rw [w] at p
  have q : ∀ v, S23 g (FX12_goTo t v G) := fun v => by
    unfold S23
    rw [goTo_o _ _ _ _ _ (by simp)]
    exact p
  repeat' split
  all_goals first | exact p | exact q _
theorem ins_23 {t i : Int32} (g : ph_H) : S23 g (FX12_instruct t i g) := by
  have A : ∀ (a b c s0 : Int32) (G : ph_H), G 0 23 = g 0 23 → S23 g (FX12_instruct_102 t i a b c s0 G) := fun a b c s0 G e => by
    have B : ∀ x6 y, S23 g (FX12_instruct_177 t i a b c x6 y (hs G 0 25 s0)) := fun x6 y => by
      have := base_23 (t := t) (i := i) (a := a) (b := b) (c := c) (x6 := x6) (s0 := y) (hs G 0 25 s0)
      unfold S23 at this ⊢
      rw [hs_o (by simp), e] at this
      exact this
    unfold FX12_instruct_102 FX12_instruct_144 FX12_instruct_148 FX12_instruct_149
    split
    · repeat' split
      all_goals exact B _ _
    · exact S23_o (Or.inl e) (by simp)
  unfold FX12_instruct FX12_instruct_98
  repeat' split
  all_goals exact A _ _ _ _ _ (hs_o (by simp))
theorem step_23 {t : Int32} (g : ph_H) : S23 g (FX12_step t g) := by
  have A : ∀ (i : Int32) (G : ph_H), G 0 23 = g 0 23 → S23 g (FX12_step_148 t i G) := fun i G e => by
    unfold FX12_step_148 FX12_step_154
    refine S23_o (S23_o ?_ (by simp)) (by simp)
    have := ins_23 (t := t) (i := i) G
    unfold S23 at this ⊢
    rw [e] at this
    exact this
  unfold FX12_step
  split
  · split
    · split
      · exact A _ _ (by simp [hs_get])
      · split
        · left
          simp [hs_get]
        · exact A _ _ (by simp [hs_get])
    · exact A _ _ (by simp [hs_get])
  · unfold FX12_step_110 FX12_step_154
    left
    rw [hs_o (by simp), hs_o (by simp), goTo_o _ _ _ _ _ (by simp)]
    simp [hs_get]
/-- what was taken in a run is the told INPUTS' beginning -/
def IK (g : ph_H) : Prop := ∀ k : Nat, (k : Int) < (g 0 23).toInt → g 36 k = g 7 k
/-- the changes come in the steps' order -/
def CI (g : ph_H) (n : Int32) : Prop := (∀ i : Nat, (i : Int) < (g 0 60).toInt → 0 ≤ (g 37 i).toInt ∧ (g 37 i).toInt < n.toInt ∧ iv 0 3 (g 38 i)) ∧ (∀ i j : Nat, i < j → (j : Int) < (g 0 60).toInt → (g 37 i).toInt < (g 37 j).toInt)
theorem IK_sk {g : ph_H} {t : Int32} (na : ¬ asksU t (cg1 t g)) (f23 : iv 0 30 (g 0 23)) (K : IK g) : IK (FX12_stepKept t g) := by
  have k1 : (1 : Int32).toInt = 1 := by decide
  have fs := frS_FX12_step (h0 := cg1 t g) t (cg1 t g) (EQ_r _)
  have s := step_23 (t := t) (cg1 t g)
  have n23 := iv_nat f23 rfl
  have ft := frT_FX12_stepKept (h0 := g) t g (EQ_r _)
  unfold S23 at s
  rw [cg1_o t g _ _ (by decide) (by decide) (by decide)] at s
  unfold iv at f23
  have e1 : (g 0 23 + 1).toInt = (g 0 23).toInt + 1 := by rw [ti_add (by omega) (by omega), k1]
  have e23 : FX12_stepKept t g 0 23 = FX12_step t (cg1 t g) 0 23 := sk_o na 0 23 (by omega)
  have w36 : ∀ k, FX12_stepKept t g 36 k = kI (g 0 23) (FX12_step t (cg1 t g)) 36 k := fun k => by
    rw [sk_eq]
    have e := frK_FX12_keep (h0 := kW t (kI (g 0 23) (FX12_step t (cg1 t g)))) (FX12_step t (cg1 t g) 0 24) _ (EQ_r _)
    rw [e 36 k rfl, kW_o _ _ _ _ (by omega)]
  intro k hk
  rw [e23] at hk
  rw [w36, ft 7 k rfl]
  have o36 : ∀ k, FX12_step t (cg1 t g) 36 k = g 36 k := fun k => by rw [fs 36 k rfl, cg1_o t g _ _ (by decide) (by decide) (by omega)]
  have o7 : ∀ k, FX12_step t (cg1 t g) 7 k = g 7 k := fun k => by rw [fs 7 k rfl, cg1_o t g _ _ (by decide) (by decide) (by omega)]
  unfold kI
  rcases s with s | s
  · rw [s] at hk ⊢
    rw [if_pos (by rw [Int32.le_iff_toInt_le]; exact Int.le_refl _), o36]
    exact K k hk
  · rw [s] at hk ⊢
    rw [if_neg (by rw [Int32.le_iff_toInt_le]; omega)]
    by_cases c : k = (g 0 23).toNatClampNeg
    · rw [← c, hs_self, o7]
    · rw [hs_o (fun w => c w.2), o36]
      exact K k (by omega)
theorem CI_sk {z : zT} {g : ph_H} {t : Int32} (ht : iv 0 3 t) (na : ¬ asksU t (cg1 t g)) (ns : iv 0 299 (g 0 24)) (I : IM z g) (hch : (g 0 60).toInt ≤ (g 0 24).toInt) (K : CI g (g 0 24)) : CI (FX12_stepKept t g) (FX12_stepKept t g 0 24) := by
  have k1 : (1 : Int32).toInt = 1 := by decide
  have fs := frS_FX12_step (h0 := cg1 t g) t (cg1 t g) (EQ_r _)
  obtain ⟨x24, -⟩ := step_rec na
  rw [cg1_o t g _ _ (by decide) (by decide) (by decide)] at x24
  have f60 : iv 0 300 (g 0 60) := IMv I 0 60
  have n60 := iv_nat f60 rfl
  unfold iv at ns f60
  have e24 : FX12_stepKept t g 0 24 = g 0 24 + 1 := by rw [sk_o na 0 24 (by omega), x24]
  have es : (g 0 24 + 1).toInt = (g 0 24).toInt + 1 := by rw [ti_add (by omega) (by omega), k1]
  have e37 : ∀ i, FX12_stepKept t g 37 i = cg1 t g 37 i := fun i => by rw [sk_o na 37 i (by omega), fs 37 i rfl]
  have e38 : ∀ i, FX12_stepKept t g 38 i = cg1 t g 38 i := fun i => by rw [sk_o na 38 i (by omega), fs 38 i rfl]
  have e60 : FX12_stepKept t g 0 60 = cg1 t g 0 60 := by rw [sk_o na 0 60 (by omega), fs 0 60 rfl]
  obtain ⟨K1, K2⟩ := K
  unfold CI
  simp only [e37, e38, e60, e24]
  unfold cg1
  by_cases c : t = g 0 26
  · simp only [if_pos c]
    exact ⟨fun i hi => ⟨(K1 i hi).1, by have := (K1 i hi).2.1; omega, (K1 i hi).2.2⟩, K2⟩
  · simp only [if_neg c]
    have q60 : (g 0 60 + 1).toInt = (g 0 60).toInt + 1 := by rw [ti_add (by omega) (by omega), k1]
    have v37 : ∀ i, hs (hs (hs g 37 (g 0 60).toNatClampNeg (g 0 24)) 38 (g 0 60).toNatClampNeg t) 0 60 (g 0 60 + 1) 37 i = if i = (g 0 60).toNatClampNeg then g 0 24 else g 37 i := fun i => by
      rw [hs_o (by simp), hs_o (by simp)]
      by_cases d : i = (g 0 60).toNatClampNeg
      · rw [if_pos d, d, hs_self]
      · rw [if_neg d, hs_o (fun w => d w.2)]
    have v38 : ∀ i, hs (hs (hs g 37 (g 0 60).toNatClampNeg (g 0 24)) 38 (g 0 60).toNatClampNeg t) 0 60 (g 0 60 + 1) 38 i = if i = (g 0 60).toNatClampNeg then t else g 38 i := fun i => by
      rw [hs_o (by simp)]
      by_cases d : i = (g 0 60).toNatClampNeg
      · rw [if_pos d, d, hs_self]
      · rw [if_neg d, hs_o (fun w => d w.2), hs_o (by simp)]
    simp only [v37, v38, hs_self, q60]
    refine ⟨fun i hi => ?_, fun i j hij hj => ?_⟩
    · by_cases d : i = (g 0 60).toNatClampNeg
      · simp only [if_pos d]
        exact ⟨by omega, by omega, ht⟩
      · simp only [if_neg d]
        obtain ⟨a, b, c⟩ := K1 i (by omega)
        exact ⟨a, by omega, c⟩
    · by_cases d : j = (g 0 60).toNatClampNeg
      · have : ¬ i = (g 0 60).toNatClampNeg := by omega
        simp only [if_pos d, if_neg this]
        exact (K1 i (by omega)).2.1
      · have : ¬ i = (g 0 60).toNatClampNeg := by omega
        simp only [if_neg d, if_neg this]
        exact K2 i j hij (by omega)
end MG_48_x29B1n
