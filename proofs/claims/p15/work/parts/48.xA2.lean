/-! THE RELATION of a machine of the class and the reference's machine -/
def MD (m q st as wk : Int32) : Prop := (m = 0 ∧ st = 0 ∧ as = -1 ∧ wk = -1) ∨ (m = 1 ∧ st = 1 ∧ as = -1 ∧ wk = -1) ∨ (m = 2 ∧ st = 1 ∧ as = q ∧ iv 0 11 q ∧ wk = -1) ∨ (m = 3 ∧ st = 1 ∧ as = -1 ∧ wk = q ∧ iv 0 11 q)
def OW (c r : Int32) : Prop := (c = -2 ∧ r = -1) ∨ (c = r ∧ iv 0 3 c)
def kn (g : ph_H) : Int32 := if g 0 33 = 0 then g 0 7 else g 0 34
def vi (g : ph_H) (k : Nat) : Int32 := if g 0 33 = 0 then g 7 k else g 36 k
def LV (g : ph_H) : Prop := (∀ k, k < 28 → g 10 k = 0 ∨ (0 ≤ (g 11 k).toInt ∧ (g 11 k).toInt < (g 0 18).toInt ∧ g 16 (g 11 k).toNatClampNeg = g 10 k)) ∧ (∀ t, t < 4 → (g 14 t).toInt < (g 0 18).toInt ∧ (g 15 t).toInt < (g 0 18).toInt) ∧ (∀ i, iv 0 19 (g 2 i))
def Rsl (h g : ph_H) : Prop := ∀ i, i < 28 → h 16 i = g 10 i ∧ h 17 i = g 11 i
def Rat (h g : ph_H) : Prop := ∀ t, t < 4 → nrm (g 1 t) (h 18 t) = g 12 t
def Rmd (h g : ph_H) : Prop := ∀ t, t < 4 → MD (h 19 t) (h 20 t) (g 13 t) (g 14 t) (g 15 t)
def Rth (h g : ph_H) : Prop := h 15 10 = g 0 18 ∧ ∀ x : Nat, (x : Int) < (g 0 18).toInt → h 21 x = g 16 x ∧ h 22 x = g 18 x ∧ OW (h 23 x) (g 17 x) ∧ ∀ i : Nat, (i : Int) < (g 18 x).toInt → h 24 (16 * x + i) = g 19 (16 * x + i)
def Rin (h g : ph_H) : Prop := h 15 12 = g 0 23 ∧ h 15 11 = kn g ∧ (g 0 23).toInt ≤ (kn g).toInt ∧ ∀ k : Nat, (k : Int) < (kn g).toInt → h 12 k = vi g k
def Rpr (h g : ph_H) : Prop := (∀ t, t < 4 → h 9 t = g 1 t) ∧ ∀ i, i < 96 → h 10 (4 * i) = g 2 i ∧ h 10 (4 * i + 1) = g 3 i ∧ h 10 (4 * i + 2) = g 4 i ∧ h 10 (4 * i + 3) = g 5 i
def RC (h g : ph_H) : Prop := Rsl h g ∧ Rat h g ∧ Rmd h g ∧ Rth h g ∧ Rin h g ∧ Rpr h g ∧ LV g
theorem t_lt {t : Int32} (ht : iv 0 3 t) : t.toNatClampNeg < 4 := by
  have := iv_nat ht rfl
  unfold iv at ht
  omega
theorem many_iv {z : zT} {g : ph_H} (I : IM z g) (t : Nat) : iv 0 24 (g 1 t) := IMv I 1 t
theorem ended_eq {z : zT} {h g : ph_H} {t : Int32} (R : RC h g) (I : IM z g) (ht : iv 0 3 t) : FX3_hasEnded_s t h = if g 12 t.toNatClampNeg = 24 then 1 else 0 := by
  obtain ⟨r1, r2, r3, r4, r5, r6, r7⟩ := R
  have e := r2 _ (t_lt ht)
  have f := r6.1 _ (t_lt ht)
  have hm := many_iv I t.toNatClampNeg
  have k24 : (24 : Int32).toInt = 24 := by decide
  unfold FX3_hasEnded_s FX5_has_t
  rw [f, ← e]
  unfold nrm iv at *
  by_cases c : h 18 t.toNatClampNeg < 0
  · simp only [if_pos c, if_true]
  · rw [if_neg c, if_neg c]
    by_cases d : h 18 t.toNatClampNeg < g 1 t.toNatClampNeg
    · rw [if_pos d]
      rw [Int32.lt_iff_toInt_lt] at d
      have d1 : ¬ 24 ≤ h 18 t.toNatClampNeg := by rw [Int32.le_iff_toInt_le, k24]; omega
      have d2 : ¬ g 1 t.toNatClampNeg ≤ h 18 t.toNatClampNeg := by rw [Int32.le_iff_toInt_le]; omega
      have d3 : ¬ h 18 t.toNatClampNeg = 24 := fun w => d1 (by rw [w]; decide)
      rw [if_neg d1, if_neg d2, if_neg (by decide), if_neg d3]
    · rw [if_neg d, if_pos rfl]
      have d4 := nlt d
      by_cases d1 : 24 ≤ h 18 t.toNatClampNeg
      · rw [if_pos d1, if_pos rfl]
      · rw [if_neg d1, if_pos d4, if_pos rfl]
/-- where a THREAD that hasn't ended stands -/
theorem stands {z : zT} {h g : ph_H} {t : Int32} (R : RC h g) (I : IM z g) (ht : iv 0 3 t) (e : ¬ g 12 t.toNatClampNeg = 24) : h 18 t.toNatClampNeg = g 12 t.toNatClampNeg ∧ iv 0 23 (h 18 t.toNatClampNeg) := by
  obtain ⟨r1, r2, r3, r4, r5, r6, r7⟩ := R
  have f := r2 _ (t_lt ht)
  have k := nrm_id (many_iv I t.toNatClampNeg) (a := h 18 t.toNatClampNeg) (by rw [f]; exact e)
  rw [f] at k
  exact ⟨k.1.symm, k.2.1, by omega⟩
theorem parts {z : zT} {h g : ph_H} {t : Int32} (R : RC h g) (I : IM z g) (ht : iv 0 3 t) (e : ¬ g 12 t.toNatClampNeg = 24) :
    h 10 (FX5_firstPart_t t (h 18 t.toNatClampNeg) h).toNatClampNeg = g 2 ((24 * t) + g 12 t.toNatClampNeg).toNatClampNeg ∧
    h 10 ((FX5_firstPart_t t (h 18 t.toNatClampNeg) h) + 1).toNatClampNeg = g 3 ((24 * t) + g 12 t.toNatClampNeg).toNatClampNeg ∧
    h 10 ((FX5_firstPart_t t (h 18 t.toNatClampNeg) h) + 2).toNatClampNeg = g 4 ((24 * t) + g 12 t.toNatClampNeg).toNatClampNeg ∧
    h 10 ((FX5_firstPart_t t (h 18 t.toNatClampNeg) h) + 3).toNatClampNeg = g 5 ((24 * t) + g 12 t.toNatClampNeg).toNatClampNeg := by
  obtain ⟨e1, e2⟩ := stands R I ht e
  obtain ⟨r1, r2, r3, r4, r5, r6, r7⟩ := R
  unfold FX5_firstPart_t
  rw [← e1]
  have p := r6.2 _ (part_ix (j := 0) (v := 0) ht e2 (by decide) (by decide)).2
  rw [part_ix0 ht e2, (part_ix (j := 1) (v := 1) ht e2 (by decide) (by decide)).1, (part_ix (j := 2) (v := 2) ht e2 (by decide) (by decide)).1, (part_ix (j := 3) (v := 3) ht e2 (by decide) (by decide)).1]
  exact p
theorem refs {h g : ph_H} {k : Nat} (R : RC h g) (hk : k < 28) (e : ¬ g 10 k = 0) : ((g 11 k).toNatClampNeg : Int) = (g 11 k).toInt ∧ ((g 11 k).toNatClampNeg : Int) < (g 0 18).toInt ∧ g 16 (g 11 k).toNatClampNeg = g 10 k := by
  rcases R.2.2.2.2.2.2.1 k hk with c | ⟨c1, c2, c3⟩
  · exact absurd c e
  · have : ((g 11 k).toNatClampNeg : Int) = (g 11 k).toInt := by
      rw [← Int32.toNat_toInt]
      omega
    exact ⟨this, by omega, c3⟩
theorem OW_free {c r : Int32} (o : OW c r) : c = -2 ↔ r < 0 := by
  rcases o with ⟨rfl, rfl⟩ | ⟨rfl, f⟩
  · exact ⟨fun _ => by decide, fun _ => rfl⟩
  · unfold iv at f
    refine ⟨fun e => ?_, fun e => ?_⟩
    · rw [e]; decide
    · rw [Int32.lt_iff_toInt_lt] at e
      have h0 : (0 : Int32).toInt = 0 := by decide
      omega
theorem OW_own {c r t : Int32} (o : OW c r) (ht : iv 0 3 t) : c = t ↔ r = t := by
  rcases o with ⟨rfl, rfl⟩ | ⟨rfl, f⟩
  · unfold iv at ht
    refine ⟨fun e => ?_, fun e => ?_⟩
    · rw [← e] at ht
      exact absurd ht.1 (by decide)
    · rw [← e] at ht
      exact absurd ht.1 (by decide)
  · exact Iff.rfl
theorem own_at {h g : ph_H} {k : Nat} (R : RC h g) (hk : k < 28) (e : ¬ g 10 k = 0) : OW (h 23 (g 11 k).toNatClampNeg) (g 17 (g 11 k).toNatClampNeg) := by
  obtain ⟨a, b, c⟩ := refs R hk e
  exact (R.2.2.2.1.2 _ b).2.2.1
theorem sl_lt {t a : Int32} {g : ph_H} (ht : iv 0 3 t) : (FX12_local t a g).toNatClampNeg < 28 := by
  have f := slot_iv (a := a) (g := g) ht
  have := iv_nat f rfl
  unfold iv at f
  omega
theorem lock_eq {h g : ph_H} {k : Int32} (R : RC h g) (hk : k.toNatClampNeg < 28) : FX3_lockIn_s k h = if FX12_isLock k g = 0 then -1 else g 11 k.toNatClampNeg := by
  obtain ⟨e1, e2⟩ := R.1 _ hk
  unfold FX3_lockIn_s FX3_lockIn_s_20 FX12_isLock FX12_isLock_20
  rw [e1, e2]
  by_cases c : g 10 k.toNatClampNeg = 2
  · rw [if_pos c, if_pos c, if_neg (by decide)]
  · rw [if_neg c, if_neg c]
    by_cases d : g 10 k.toNatClampNeg = 3
    · rw [if_pos d, if_pos d, if_neg (by decide)]
    · rw [if_neg d, if_neg d, if_pos rfl]
theorem isLock_t {g : ph_H} {k : Int32} (e : ¬ FX12_isLock k g = 0) : ¬ g 10 k.toNatClampNeg = 0 := by
  intro c
  apply e
  unfold FX12_isLock
  rw [c]
  rfl
theorem nn_t {x : Int32} (h : 0 ≤ x.toInt) : ¬ x < 0 := by
  rw [Int32.lt_iff_toInt_lt]
  have h0 : (0 : Int32).toInt = 0 := by decide
  omega
theorem nn_le {x : Int32} (h : 0 ≤ x.toInt) : 0 ≤ x := by
  rw [Int32.le_iff_toInt_le]
  have h0 : (0 : Int32).toInt = 0 := by decide
  omega
theorem canGo_eq {z : zT} {h g : ph_H} {t : Int32} (R : RC h g) (I : IM z g) (ht : iv 0 3 t) : FX3_canGo_s t h = FX12_canGo t g := by
  have en := ended_eq R I ht
  have md := R.2.2.1 _ (t_lt ht)
  have k1 : (-1 : Int32) < 0 := by decide
  unfold FX3_canGo_s FX12_canGo FX3_canGo_s_137 FX12_canGo_107 FX12_canGo_108 FX12_canGo_144
  rw [en]
  by_cases e : g 12 t.toNatClampNeg = 24
  · simp (decide := true) only [e, ↓reduceIte]
    repeat' split
    all_goals rfl
  · obtain ⟨p0, p1, p2, p3⟩ := parts R I ht e
    rcases md with ⟨m, st, as, wk⟩ | ⟨m, st, as, wk⟩ | ⟨m, st, as, q, wk⟩ | ⟨m, st, as, wk, q⟩
    · simp (decide := true) only [m, st, ↓reduceIte]
    · simp (decide := true) only [m, st, as, wk, e, k1, p0, p1, ↓reduceIte]
      by_cases o : g 2 ((24 * t) + g 12 t.toNatClampNeg).toNatClampNeg = 12
      · rw [slot_eq t _ g, lock_eq R (sl_lt ht)]
        by_cases l : FX12_isLock (FX12_local t (g 3 ((24 * t) + g 12 t.toNatClampNeg).toNatClampNeg) g) g = 0
        · simp (decide := true) only [o, l, k1, ↓reduceIte]
        · have l0 := isLock_t l
          have lo := own_at R (sl_lt ht) l0
          obtain ⟨a, b, c⟩ := refs R (sl_lt ht) l0
          have nn := nn_t (x := g 11 (FX12_local t (g 3 ((24 * t) + g 12 t.toNatClampNeg).toNatClampNeg) g).toNatClampNeg) (by omega)
          simp (decide := true) only [o, l, nn, ↓reduceIte]
          by_cases f : g 17 (g 11 (FX12_local t (g 3 ((24 * t) + g 12 t.toNatClampNeg).toNatClampNeg) g).toNatClampNeg).toNatClampNeg < 0
          · rw [if_pos f, if_pos ((OW_free lo).mpr f)]
          · rw [if_neg f, if_neg (fun w => f ((OW_free lo).mp w))]
            by_cases u : g 17 (g 11 (FX12_local t (g 3 ((24 * t) + g 12 t.toNatClampNeg).toNatClampNeg) g).toNatClampNeg).toNatClampNeg = t
            · rw [if_pos u, if_pos ((OW_own lo ht).mpr u)]
            · rw [if_neg u, if_neg (fun w => u ((OW_own lo ht).mp w))]
      · simp (decide := true) only [o, ↓reduceIte]
    · unfold iv at q
      have nn := nn_t q.1
      simp (decide := true) only [m, st, as, nn, e, ↓reduceIte]
    · have lv := (R.2.2.2.2.2.2.2.1 _ (t_lt ht)).2
      rw [wk] at lv
      have qn := iv_nat q rfl
      have ow := (R.2.2.2.1.2 (h 20 t.toNatClampNeg).toNatClampNeg (by omega)).2.2.1
      unfold iv at q
      have nn := nn_t q.1
      simp (decide := true) only [m, st, as, wk, k1, nn, e, ↓reduceIte]
      by_cases f : g 17 (h 20 t.toNatClampNeg).toNatClampNeg < 0
      · rw [if_pos ((OW_free ow).mpr f), if_neg (fun w => nn_of w f)]
      · rw [if_neg (fun w => f ((OW_free ow).mp w)), if_pos (nlt f)]
