/-! THE RELATION of a machine of the class and the reference's machine -/
def Rslo1 (h g : ph_H) : Prop := ∀ i, i < 28 → h 26 i = g 10 i ∧ h 27 i = g 11 i
def Rato1 (h g : ph_H) : Prop := ∀ t, t < 4 → nrm (g 1 t) (h 28 t) = g 12 t
def Rmdo1 (h g : ph_H) : Prop := ∀ t, t < 4 → MD (h 29 t) (h 30 t) (g 13 t) (g 14 t) (g 15 t)
def Rtho1 (h g : ph_H) : Prop := h 25 10 = g 0 18 ∧ ∀ x : Nat, (x : Int) < (g 0 18).toInt → h 31 x = g 16 x ∧ h 32 x = g 18 x ∧ OW (h 33 x) (g 17 x) ∧ ∀ i : Nat, (i : Int) < (g 18 x).toInt → h 34 (16 * x + i) = g 19 (16 * x + i)
def Rino1 (h g : ph_H) : Prop := h 25 12 = g 0 23 ∧ h 25 11 = kn g ∧ (g 0 23).toInt ≤ (kn g).toInt ∧ ∀ k : Nat, (k : Int) < (kn g).toInt → h 5 k = vi g k
def Rpro1 (h g : ph_H) : Prop := (∀ t, t < 4 → h 2 t = g 1 t) ∧ ∀ i, i < 96 → h 3 (4 * i) = g 2 i ∧ h 3 (4 * i + 1) = g 3 i ∧ h 3 (4 * i + 2) = g 4 i ∧ h 3 (4 * i + 3) = g 5 i
def RCo1 (h g : ph_H) : Prop := Rslo1 h g ∧ Rato1 h g ∧ Rmdo1 h g ∧ Rtho1 h g ∧ Rino1 h g ∧ Rpro1 h g ∧ LV g
theorem t_lto1 {t : Int32} (ht : iv 0 3 t) : t.toNatClampNeg < 4 := by
  have := iv_nat ht rfl
  unfold iv at ht
  omega
theorem many_ivo1 {z : zT} {g : ph_H} (I : IM z g) (t : Nat) : iv 0 24 (g 1 t) := IMv I 1 t
theorem ended_eqo1 {z : zT} {h g : ph_H} {t : Int32} (R : RCo1 h g) (I : IM z g) (ht : iv 0 3 t) : FX3_hasEnded_oc1 t h = if g 12 t.toNatClampNeg = 24 then 1 else 0 := by
  obtain ⟨r1, r2, r3, r4, r5, r6, r7⟩ := R
  have e := r2 _ (t_lto1 ht)
  have f := r6.1 _ (t_lto1 ht)
  have hm := many_ivo1 I t.toNatClampNeg
  have k24 : (24 : Int32).toInt = 24 := by decide
  unfold FX3_hasEnded_oc1 FX5_has_n
  rw [f, ← e]
  unfold nrm iv at *
  by_cases c : h 28 t.toNatClampNeg < 0
  · simp only [if_pos c, if_true]
  · rw [if_neg c, if_neg c]
    by_cases d : h 28 t.toNatClampNeg < g 1 t.toNatClampNeg
    · rw [if_pos d]
      rw [Int32.lt_iff_toInt_lt] at d
      have d1 : ¬ 24 ≤ h 28 t.toNatClampNeg := by rw [Int32.le_iff_toInt_le, k24]; omega
      have d2 : ¬ g 1 t.toNatClampNeg ≤ h 28 t.toNatClampNeg := by rw [Int32.le_iff_toInt_le]; omega
      have d3 : ¬ h 28 t.toNatClampNeg = 24 := fun w => d1 (by rw [w]; decide)
      rw [if_neg d1, if_neg d2, if_neg (by decide), if_neg d3]
    · rw [if_neg d, if_pos rfl]
      have d4 := nlt d
      by_cases d1 : 24 ≤ h 28 t.toNatClampNeg
      · rw [if_pos d1, if_pos rfl]
      · rw [if_neg d1, if_pos d4, if_pos rfl]
/-- where a THREAD that hasn't ended stands -/
theorem standso1 {z : zT} {h g : ph_H} {t : Int32} (R : RCo1 h g) (I : IM z g) (ht : iv 0 3 t) (e : ¬ g 12 t.toNatClampNeg = 24) : h 28 t.toNatClampNeg = g 12 t.toNatClampNeg ∧ iv 0 23 (h 28 t.toNatClampNeg) := by
  obtain ⟨r1, r2, r3, r4, r5, r6, r7⟩ := R
  have f := r2 _ (t_lto1 ht)
  have k := nrm_id (many_ivo1 I t.toNatClampNeg) (a := h 28 t.toNatClampNeg) (by rw [f]; exact e)
  rw [f] at k
  exact ⟨k.1.symm, k.2.1, by omega⟩
theorem partso1 {z : zT} {h g : ph_H} {t : Int32} (R : RCo1 h g) (I : IM z g) (ht : iv 0 3 t) (e : ¬ g 12 t.toNatClampNeg = 24) :
    h 3 (FX5_firstPart_n t (h 28 t.toNatClampNeg) h).toNatClampNeg = g 2 ((24 * t) + g 12 t.toNatClampNeg).toNatClampNeg ∧
    h 3 ((FX5_firstPart_n t (h 28 t.toNatClampNeg) h) + 1).toNatClampNeg = g 3 ((24 * t) + g 12 t.toNatClampNeg).toNatClampNeg ∧
    h 3 ((FX5_firstPart_n t (h 28 t.toNatClampNeg) h) + 2).toNatClampNeg = g 4 ((24 * t) + g 12 t.toNatClampNeg).toNatClampNeg ∧
    h 3 ((FX5_firstPart_n t (h 28 t.toNatClampNeg) h) + 3).toNatClampNeg = g 5 ((24 * t) + g 12 t.toNatClampNeg).toNatClampNeg := by
  obtain ⟨e1, e2⟩ := standso1 R I ht e
  obtain ⟨r1, r2, r3, r4, r5, r6, r7⟩ := R
  unfold FX5_firstPart_n
  rw [← e1]
  have p := r6.2 _ (part_ix (j := 0) (v := 0) ht e2 (by decide) (by decide)).2
  rw [part_ix0 ht e2, (part_ix (j := 1) (v := 1) ht e2 (by decide) (by decide)).1, (part_ix (j := 2) (v := 2) ht e2 (by decide) (by decide)).1, (part_ix (j := 3) (v := 3) ht e2 (by decide) (by decide)).1]
  exact p
theorem refso1 {h g : ph_H} {k : Nat} (R : RCo1 h g) (hk : k < 28) (e : ¬ g 10 k = 0) : ((g 11 k).toNatClampNeg : Int) = (g 11 k).toInt ∧ ((g 11 k).toNatClampNeg : Int) < (g 0 18).toInt ∧ g 16 (g 11 k).toNatClampNeg = g 10 k := by
  rcases R.2.2.2.2.2.2.1 k hk with c | ⟨c1, c2, c3⟩
  · exact absurd c e
  · have : ((g 11 k).toNatClampNeg : Int) = (g 11 k).toInt := by
      rw [← Int32.toNat_toInt]
      omega
    exact ⟨this, by omega, c3⟩
theorem own_ato1 {h g : ph_H} {k : Nat} (R : RCo1 h g) (hk : k < 28) (e : ¬ g 10 k = 0) : OW (h 33 (g 11 k).toNatClampNeg) (g 17 (g 11 k).toNatClampNeg) := by
  obtain ⟨a, b, c⟩ := refso1 R hk e
  exact (R.2.2.2.1.2 _ b).2.2.1
theorem sl_lto1 {t a : Int32} {g : ph_H} (ht : iv 0 3 t) : (FX12_local t a g).toNatClampNeg < 28 := by
  have f := slot_iv (a := a) (g := g) ht
  have := iv_nat f rfl
  unfold iv at f
  omega
theorem lock_eqo1 {h g : ph_H} {k : Int32} (R : RCo1 h g) (hk : k.toNatClampNeg < 28) : FX3_lockIn_oc1 k h = if FX12_isLock k g = 0 then -1 else g 11 k.toNatClampNeg := by
  obtain ⟨e1, e2⟩ := R.1 _ hk
  unfold FX3_lockIn_oc1 FX3_lockIn_oc1_20 FX12_isLock FX12_isLock_20
  rw [e1, e2]
  by_cases c : g 10 k.toNatClampNeg = 2
  · rw [if_pos c, if_pos c, if_neg (by decide)]
  · rw [if_neg c, if_neg c]
    by_cases d : g 10 k.toNatClampNeg = 3
    · rw [if_pos d, if_pos d, if_neg (by decide)]
    · rw [if_neg d, if_neg d, if_pos rfl]
theorem isLock_to1 {g : ph_H} {k : Int32} (e : ¬ FX12_isLock k g = 0) : ¬ g 10 k.toNatClampNeg = 0 := by
  intro c
  apply e
  unfold FX12_isLock
  rw [c]
  rfl
theorem canGo_eqo1 {z : zT} {h g : ph_H} {t : Int32} (R : RCo1 h g) (I : IM z g) (ht : iv 0 3 t) : FX3_canGo_oc1 t h = FX12_canGo t g := by
  have en := ended_eqo1 R I ht
  have md := R.2.2.1 _ (t_lto1 ht)
  have k1 : (-1 : Int32) < 0 := by decide
  unfold FX3_canGo_oc1 FX12_canGo FX3_canGo_oc1_137 FX12_canGo_107 FX12_canGo_108 FX12_canGo_144
  rw [en]
  by_cases e : g 12 t.toNatClampNeg = 24
  · simp (decide := true) only [e, ↓reduceIte]
    repeat' split
    all_goals rfl
  · obtain ⟨p0, p1, p2, p3⟩ := partso1 R I ht e
    rcases md with ⟨m, st, as, wk⟩ | ⟨m, st, as, wk⟩ | ⟨m, st, as, q, wk⟩ | ⟨m, st, as, wk, q⟩
    · simp (decide := true) only [m, st, ↓reduceIte]
    · simp (decide := true) only [m, st, as, wk, e, k1, p0, p1, ↓reduceIte]
      by_cases o : g 2 ((24 * t) + g 12 t.toNatClampNeg).toNatClampNeg = 12
      · rw [slot_eq t _ g, lock_eqo1 R (sl_lto1 ht)]
        by_cases l : FX12_isLock (FX12_local t (g 3 ((24 * t) + g 12 t.toNatClampNeg).toNatClampNeg) g) g = 0
        · simp (decide := true) only [o, l, k1, ↓reduceIte]
        · have l0 := isLock_to1 l
          have lo := own_ato1 R (sl_lto1 ht) l0
          obtain ⟨a, b, c⟩ := refso1 R (sl_lto1 ht) l0
          have nn := nn_t (x := g 11 (FX12_local t (g 3 ((24 * t) + g 12 t.toNatClampNeg).toNatClampNeg) g).toNatClampNeg) (by omega)
          simp (decide := true) only [o, l, nn, ↓reduceIte]
          by_cases f : g 17 (g 11 (FX12_local t (g 3 ((24 * t) + g 12 t.toNatClampNeg).toNatClampNeg) g).toNatClampNeg).toNatClampNeg < 0
          · rw [if_pos f, if_pos ((OW_free lo).mpr f)]
          · rw [if_neg f, if_neg (fun w => f ((OW_free lo).mp w))]
            by_cases u : g 17 (g 11 (FX12_local t (g 3 ((24 * t) + g 12 t.toNatClampNeg).toNatClampNeg) g).toNatClampNeg).toNatClampNeg = t
            · rw [if_pos u, if_pos ((OW_own lo ht).mpr u)]
            · rw [if_neg u, if_neg (fun w => u ((OW_own lo ht).mp w))]
      · simp (decide := true) only [o, ↓reduceIte]
    · unfold iv at q
      have nn := nn_t q.1
      simp (decide := true) only [m, st, as, nn, e, ↓reduceIte]
    · have lv := (R.2.2.2.2.2.2.2.1 _ (t_lto1 ht)).2
      rw [wk] at lv
      have qn := iv_nat q rfl
      have ow := (R.2.2.2.1.2 (h 30 t.toNatClampNeg).toNatClampNeg (by omega)).2.2.1
      unfold iv at q
      have nn := nn_t q.1
      simp (decide := true) only [m, st, as, wk, k1, nn, e, ↓reduceIte]
      by_cases f : g 17 (h 30 t.toNatClampNeg).toNatClampNeg < 0
      · rw [if_pos ((OW_free ow).mpr f), if_neg (fun w => nn_of w f)]
      · rw [if_neg (fun w => f ((OW_free ow).mp w)), if_pos (nlt f)]
