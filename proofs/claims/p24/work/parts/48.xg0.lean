section MG_48_x00A1
/-! EQUALITY of the two runs: small numbers, floorMod = modulo, places -/
theorem tI {x y : Int32} (e : x.toInt = y.toInt) : x = y := Int32.toInt_inj.mp e
theorem fm_eq {x n : Int32} {m : Int} (q : (decide (n.toInt = m) && decide (1 ≤ m) && decide (m ≤ 1000)) = true) : FJ9_floorMod_7cf53 x n = FX12_modulo x n := by
  simp only [Bool.and_eq_true, decide_eq_true_eq] at q
  obtain ⟨⟨hn, h1⟩, h2⟩ := q
  have h0 : (0 : Int32).toInt = 0 := by decide
  have xn := xor_nn (x := x) (n := n) (by omega)
  obtain ⟨e1, e2⟩ := irem_ti (x := x) hn h1 h2
  have hr := irem_iv (x := x) hn h1 h2
  unfold iv at hr
  have hs : ((x - x / n * n) + n).toInt = (x - x / n * n).toInt + m := by
    rw [ti_add (by omega) (by omega), hn]
  obtain ⟨e3, e4⟩ := irem_ti (x := (x - x / n * n) + n) hn h1 h2
  have e5 : (FX12_modulo x n).toInt = ((x - x / n * n).toInt + m) % m := by
    unfold FX12_modulo
    rw [e3, e4, hs, Int.tmod_eq_emod_of_nonneg (by omega)]
  rw [Int.add_emod_right] at e5
  apply tI
  rw [e5]
  unfold FJ9_floorMod_7cf53
  split
  · rename_i c
    rw [Int32.le_iff_toInt_le, h0] at c
    have := irem_nn (a := 0) (b := 2147483647) (x := x) hn h1 h2 (by have := iv_any x; unfold iv at *; exact ⟨xn.mp c, this.2⟩) (by omega)
    unfold iv at this
    rw [Int.emod_eq_of_lt (by omega) (by omega)]
  · rename_i c
    rw [Int32.le_iff_toInt_le, h0] at c
    have f := irem_np (b := 0) (x := x) hn h1 h2 (by
      have : ¬ 0 ≤ x.toInt := fun z => c (xn.mpr z)
      omega)
    unfold iv at f
    split
    · rename_i d
      rw [d, h0]
      rfl
    · rename_i d
      have d2 : ¬ (x - x / n * n).toInt = 0 := fun z => d (tI (z.trans h0.symm))
      rw [hs, ← Int.add_emod_right, Int.emod_eq_of_lt (by omega) (by omega)]
theorem fmo4 (x : Int32) : FJ9_floorMod_7cf53 x 4 = FX12_modulo x 4 := fm_eq (m := 4) (by decide)
theorem fmo10 (x : Int32) : FJ9_floorMod_7cf53 x 10 = FX12_modulo x 10 := fm_eq (m := 10) (by decide)
theorem fmo12 (x : Int32) : FJ9_floorMod_7cf53 x 12 = FX12_modulo x 12 := fm_eq (m := 12) (by decide)
theorem hs_get (h : ph_H) (k i : Nat) (v : Int32) (k' i' : Nat) : hs h k i v k' i' = if k' = k then (if i' = i then v else h k' i') else h k' i' := by
  by_cases c : k' = k
  · rw [if_pos c]
    by_cases d : i' = i
    · rw [if_pos d, c, d, hz_e]
    · rw [if_neg d, hs_o (fun z => d z.2)]
  · rw [if_neg c, hs_o (fun z => c z.1)]
theorem hs_ext {a b : ph_H} (e : ∀ k i, a k i = b k i) : a = b := funext fun k => funext fun i => e k i
theorem hs_hs (h : ph_H) (k i : Nat) (v w : Int32) : hs (hs h k i v) k i w = hs h k i w := by
  apply hs_ext
  intro k' i'
  simp only [hs_get]
  repeat' split
  all_goals rfl
theorem hs_comm (h : ph_H) (k i : Nat) (v : Int32) (k2 i2 : Nat) (w : Int32) (c : k ≠ k2 ∨ i ≠ i2) : hs (hs h k i v) k2 i2 w = hs (hs h k2 i2 w) k i v := by
  apply hs_ext
  intro k' i'
  simp only [hs_get]
  rcases c with c | c
  · by_cases a : k' = k
    · have b : ¬ k' = k2 := fun e => c (a.symm.trans e)
      simp [b]
    · simp [a]
  · by_cases a : i' = i
    · have b : ¬ i' = i2 := fun e => c (a.symm.trans e)
      simp [b]
    · simp [a]
theorem hs_id (h : ph_H) (k i : Nat) : hs h k i (h k i) = h := by
  apply hs_ext
  intro k' i'
  rw [hs_get]
  split
  · rename_i a
    split
    · rename_i b
      rw [a, b]
    · rfl
  · rfl
def nrm (m a : Int32) : Int32 := if a < 0 then 24 else if a < m then a else 24
theorem goTo_eq (t a : Int32) (g : ph_H) : FX12_goTo t a g = hs g 12 t.toNatClampNeg (nrm (g 1 t.toNatClampNeg) a) := by
  unfold FX12_goTo FX12_goTo_19 nrm
  split
  · rfl
  · split <;> rfl
theorem iv_nat {lo hi : Int} {x : Int32} (f : iv lo hi x) (q : decide (0 ≤ lo) = true) : (x.toNatClampNeg : Int) = x.toInt := by
  simp only [decide_eq_true_eq] at q
  unfold iv at f
  rw [← Int32.toNat_toInt]
  omega
theorem slot_eq (t a : Int32) (g : ph_H) : FX3_slotOf t a = FX12_local t a g := by
  unfold FX3_slotOf FX12_local
  rw [fmo4, Int32.mul_comm t 4]
theorem slot_iv {t a : Int32} {g : ph_H} (ht : iv 0 3 t) : iv 12 27 (FX12_local t a g) := by
  unfold FX12_local
  exact iv_add (iv_add (a := 12) (b := 12) (iv_lit rfl) (iv_mul (c := 4) (lo := 0) (hi := 12) rfl ht rfl) (lo := 12) (hi := 24) rfl) (modulo_iv (m := 4) (hi := 3) rfl) rfl
theorem nrm_in {m a : Int32} (hm : iv 0 24 m) : iv 0 24 (nrm m a) := by
  unfold nrm
  split
  · exact ⟨by decide, by decide⟩
  · split
    · rename_i c d
      have c1 := nlt c
      rw [Int32.le_iff_toInt_le] at c1
      rw [Int32.lt_iff_toInt_lt] at d
      have h0 : (0 : Int32).toInt = 0 := by decide
      unfold iv at *
      omega
    · exact ⟨by decide, by decide⟩
/-- not ended: the number itself, and it is below the length -/
theorem nrm_id {m a : Int32} (hm : iv 0 24 m) (h : ¬ nrm m a = 24) : nrm m a = a ∧ 0 ≤ a.toInt ∧ a.toInt < m.toInt ∧ a.toInt < 24 := by
  unfold nrm at *
  have h0 : (0 : Int32).toInt = 0 := by decide
  split at h
  · exact absurd rfl h
  · rename_i c
    split at h
    · rename_i d
      have c1 := nlt c
      rw [Int32.le_iff_toInt_le] at c1
      rw [Int32.lt_iff_toInt_lt] at d
      unfold iv at hm
      rw [if_neg c, if_pos (by rw [Int32.lt_iff_toInt_lt]; exact d)]
      exact ⟨rfl, by omega, by omega, by omega⟩
    · exact absurd rfl h
theorem part_ix {t a : Int32} {j : Nat} {v : Int32} (ht : iv 0 3 t) (ha : iv 0 23 a) (hv : v.toInt = j) (hj : j < 4) : ((((t * 24) + a) * 4) + v).toNatClampNeg = 4 * ((24 * t) + a).toNatClampNeg + j ∧ ((24 * t) + a).toNatClampNeg < 96 := by
  have k24 : (24 : Int32).toInt = 24 := by decide
  have k4 : (4 : Int32).toInt = 4 := by decide
  unfold iv at *
  have e1 : (24 * t).toInt = 24 * t.toInt := by rw [ti_mul (by rw [k24]; omega) (by rw [k24]; omega), k24]
  have e2 : (24 * t + a).toInt = 24 * t.toInt + a.toInt := by rw [ti_add (by omega) (by omega), e1]
  have e3 : (t * 24 + a) = 24 * t + a := by rw [Int32.mul_comm]
  have e4 : ((24 * t + a) * 4).toInt = 4 * (24 * t.toInt + a.toInt) := by rw [ti_mul (by rw [k4, e2]; omega) (by rw [k4, e2]; omega), k4, e2]; omega
  have e5 : ((24 * t + a) * 4 + v).toInt = 4 * (24 * t.toInt + a.toInt) + j := by rw [ti_add (by omega) (by omega), e4, hv]
  rw [e3]
  rw [← Int32.toNat_toInt, ← Int32.toNat_toInt, e5, e2]
  omega
theorem part_ix0 {t a : Int32} (ht : iv 0 3 t) (ha : iv 0 23 a) : (((t * 24) + a) * 4).toNatClampNeg = 4 * ((24 * t) + a).toNatClampNeg := by
  have := (part_ix (j := 0) (v := 0) ht ha (by decide) (by decide)).1
  rw [Int32.add_zero] at this
  exact this
end MG_48_x00A1
section MG_48_x01A2
/-! THE RELATION of a machine of the class and the reference's machine -/
def MD (m q st as wk : Int32) : Prop := (m = 0 ∧ st = 0 ∧ as = -1 ∧ wk = -1) ∨ (m = 1 ∧ st = 1 ∧ as = -1 ∧ wk = -1) ∨ (m = 2 ∧ st = 1 ∧ as = q ∧ iv 0 11 q ∧ wk = -1) ∨ (m = 3 ∧ st = 1 ∧ as = -1 ∧ wk = q ∧ iv 0 11 q)
def OW (c r : Int32) : Prop := (c = -2 ∧ r = -1) ∨ (c = r ∧ iv 0 3 c)
def kn (g : ph_H) : Int32 := if g 0 33 = 0 then g 0 7 else g 0 34
def vi (g : ph_H) (k : Nat) : Int32 := if g 0 33 = 0 then g 7 k else g 36 k
def LV (g : ph_H) : Prop := (∀ k, k < 28 → g 10 k = 0 ∨ (0 ≤ (g 11 k).toInt ∧ (g 11 k).toInt < (g 0 18).toInt ∧ g 16 (g 11 k).toNatClampNeg = g 10 k)) ∧ (∀ t, t < 4 → (g 14 t).toInt < (g 0 18).toInt ∧ (g 15 t).toInt < (g 0 18).toInt) ∧ (∀ i, iv 0 19 (g 2 i))
def Rsl (h g : ph_H) : Prop := ∀ i, i < 28 → h 16 i = g 10 i ∧ h 17 i = g 11 i
def Rat (h g : ph_H) : Prop := ∀ t, t < 4 → nrm (g 1 t) (h 18 t) = g 12 t
def Rmd (h g : ph_H) : Prop := ∀ t, t < 4 → MD (h 19 t) (h 20 t) (g 13 t) (g 14 t) (g 15 t)
def Rth (h g : ph_H) : Prop := h 15 10 = g 0 18 ∧ ∀ x : Nat, (x : Int) < (g 0 18).toInt → h 21 x = g 16 x ∧ h 22 x = g 18 x ∧ OW (h 23 x) (g 17 x) ∧ ∀ i : Nat, (i : Int) < (g 18 x).toInt → h 24 (16 * x + i) = g 19 (16 * x + i)
def Rin (h g : ph_H) : Prop := h 15 12 = g 0 23 ∧ h 15 11 = kn g ∧ (g 0 23).toInt ≤ (kn g).toInt ∧ ∀ k : Nat, (k : Int) < (kn g).toInt → h 12 k = vi g k
def Rpr (h g : ph_H) : Prop := (∀ t, t < 4 → h 9 t = g 1 t) ∧ ∀ i, i < 96 → h 10 (4 * i) = g 2 i ∧ h 10 (4 * i + 1) = g 3 i ∧ h 10 (4 * i + 2) = g 4 i ∧ h 10 (4 * i + 3) = g 5 i
def RC (h g : ph_H) : Prop := Rsl h g ∧ Rat h g ∧ Rmd h g ∧ Rth h g ∧ Rin h g ∧ Rpr h g ∧ LV g
theorem t_lt {t : Int32} (ht : iv 0 3 t) : t.toNatClampNeg < 4 := by
  have := iv_nat ht rfl
  unfold iv at ht
  omega
theorem many_iv {z : zT} {g : ph_H} (I : IM z g) (t : Nat) : iv 0 24 (g 1 t) := IMv I 1 t
theorem ended_eq {z : zT} {h g : ph_H} {t : Int32} (R : RC h g) (I : IM z g) (ht : iv 0 3 t) : FX3_hasEnded_s t h = if g 12 t.toNatClampNeg = 24 then 1 else 0 := by
  obtain ⟨r1, r2, r3, r4, r5, r6, r7⟩ := R
  have e := r2 _ (t_lt ht)
  have f := r6.1 _ (t_lt ht)
  have hm := many_iv I t.toNatClampNeg
  have k24 : (24 : Int32).toInt = 24 := by decide
  unfold FX3_hasEnded_s FX5_has_t
  rw [f, ← e]
  unfold nrm iv at *
  by_cases c : h 18 t.toNatClampNeg < 0
  · simp only [if_pos c, if_true]
  · rw [if_neg c, if_neg c]
    by_cases d : h 18 t.toNatClampNeg < g 1 t.toNatClampNeg
    · rw [if_pos d]
      rw [Int32.lt_iff_toInt_lt] at d
      have d1 : ¬ 24 ≤ h 18 t.toNatClampNeg := by rw [Int32.le_iff_toInt_le, k24]; omega
      have d2 : ¬ g 1 t.toNatClampNeg ≤ h 18 t.toNatClampNeg := by rw [Int32.le_iff_toInt_le]; omega
      have d3 : ¬ h 18 t.toNatClampNeg = 24 := fun w => d1 (by rw [w]; decide)
      rw [if_neg d1, if_neg d2, if_neg (by decide), if_neg d3]
    · rw [if_neg d, if_pos rfl]
      have d4 := nlt d
      by_cases d1 : 24 ≤ h 18 t.toNatClampNeg
      · rw [if_pos d1, if_pos rfl]
      · rw [if_neg d1, if_pos d4, if_pos rfl]
/-- where a THREAD that hasn't ended stands -/
theorem stands {z : zT} {h g : ph_H} {t : Int32} (R : RC h g) (I : IM z g) (ht : iv 0 3 t) (e : ¬ g 12 t.toNatClampNeg = 24) : h 18 t.toNatClampNeg = g 12 t.toNatClampNeg ∧ iv 0 23 (h 18 t.toNatClampNeg) := by
  obtain ⟨r1, r2, r3, r4, r5, r6, r7⟩ := R
  have f := r2 _ (t_lt ht)
  have k := nrm_id (many_iv I t.toNatClampNeg) (a := h 18 t.toNatClampNeg) (by rw [f]; exact e)
  rw [f] at k
  exact ⟨k.1.symm, k.2.1, by omega⟩
theorem parts {z : zT} {h g : ph_H} {t : Int32} (R : RC h g) (I : IM z g) (ht : iv 0 3 t) (e : ¬ g 12 t.toNatClampNeg = 24) :
    h 10 (FX5_firstPart_t t (h 18 t.toNatClampNeg) h).toNatClampNeg = g 2 ((24 * t) + g 12 t.toNatClampNeg).toNatClampNeg ∧
    h 10 ((FX5_firstPart_t t (h 18 t.toNatClampNeg) h) + 1).toNatClampNeg = g 3 ((24 * t) + g 12 t.toNatClampNeg).toNatClampNeg ∧
    h 10 ((FX5_firstPart_t t (h 18 t.toNatClampNeg) h) + 2).toNatClampNeg = g 4 ((24 * t) + g 12 t.toNatClampNeg).toNatClampNeg ∧
    h 10 ((FX5_firstPart_t t (h 18 t.toNatClampNeg) h) + 3).toNatClampNeg = g 5 ((24 * t) + g 12 t.toNatClampNeg).toNatClampNeg := by
  obtain ⟨e1, e2⟩ := stands R I ht e
  obtain ⟨r1, r2, r3, r4, r5, r6, r7⟩ := R
  unfold FX5_firstPart_t
  rw [← e1]
  have p := r6.2 _ (part_ix (j := 0) (v := 0) ht e2 (by decide) (by decide)).2
  rw [part_ix0 ht e2, (part_ix (j := 1) (v := 1) ht e2 (by decide) (by decide)).1, (part_ix (j := 2) (v := 2) ht e2 (by decide) (by decide)).1, (part_ix (j := 3) (v := 3) ht e2 (by decide) (by decide)).1]
  exact p
theorem refs {h g : ph_H} {k : Nat} (R : RC h g) (hk : k < 28) (e : ¬ g 10 k = 0) : ((g 11 k).toNatClampNeg : Int) = (g 11 k).toInt ∧ ((g 11 k).toNatClampNeg : Int) < (g 0 18).toInt ∧ g 16 (g 11 k).toNatClampNeg = g 10 k := by
  rcases R.2.2.2.2.2.2.1 k hk with c | ⟨c1, c2, c3⟩
  · exact absurd c e
  · have : ((g 11 k).toNatClampNeg : Int) = (g 11 k).toInt := by
      rw [← Int32.toNat_toInt]
      omega
    exact ⟨this, by omega, c3⟩
theorem OW_free {c r : Int32} (o : OW c r) : c = -2 ↔ r < 0 := by
  rcases o with ⟨rfl, rfl⟩ | ⟨rfl, f⟩
  · exact ⟨fun _ => by decide, fun _ => rfl⟩
  · unfold iv at f
    refine ⟨fun e => ?_, fun e => ?_⟩
    · rw [e]; decide
    · rw [Int32.lt_iff_toInt_lt] at e
      have h0 : (0 : Int32).toInt = 0 := by decide
      omega
theorem OW_own {c r t : Int32} (o : OW c r) (ht : iv 0 3 t) : c = t ↔ r = t := by
  rcases o with ⟨rfl, rfl⟩ | ⟨rfl, f⟩
  · unfold iv at ht
    refine ⟨fun e => ?_, fun e => ?_⟩
    · rw [← e] at ht
      exact absurd ht.1 (by decide)
    · rw [← e] at ht
      exact absurd ht.1 (by decide)
  · exact Iff.rfl
theorem own_at {h g : ph_H} {k : Nat} (R : RC h g) (hk : k < 28) (e : ¬ g 10 k = 0) : OW (h 23 (g 11 k).toNatClampNeg) (g 17 (g 11 k).toNatClampNeg) := by
  obtain ⟨a, b, c⟩ := refs R hk e
  exact (R.2.2.2.1.2 _ b).2.2.1
theorem sl_lt {t a : Int32} {g : ph_H} (ht : iv 0 3 t) : (FX12_local t a g).toNatClampNeg < 28 := by
  have f := slot_iv (a := a) (g := g) ht
  have := iv_nat f rfl
  unfold iv at f
  omega
theorem lock_eq {h g : ph_H} {k : Int32} (R : RC h g) (hk : k.toNatClampNeg < 28) : FX3_lockIn_s k h = if FX12_isLock k g = 0 then -1 else g 11 k.toNatClampNeg := by
  obtain ⟨e1, e2⟩ := R.1 _ hk
  unfold FX3_lockIn_s FX3_lockIn_s_20 FX12_isLock FX12_isLock_20
  rw [e1, e2]
  by_cases c : g 10 k.toNatClampNeg = 2
  · rw [if_pos c, if_pos c, if_neg (by decide)]
  · rw [if_neg c, if_neg c]
    by_cases d : g 10 k.toNatClampNeg = 3
    · rw [if_pos d, if_pos d, if_neg (by decide)]
    · rw [if_neg d, if_neg d, if_pos rfl]
theorem isLock_t {g : ph_H} {k : Int32} (e : ¬ FX12_isLock k g = 0) : ¬ g 10 k.toNatClampNeg = 0 := by
  intro c
  apply e
  unfold FX12_isLock
  rw [c]
  rfl
theorem nn_t {x : Int32} (h : 0 ≤ x.toInt) : ¬ x < 0 := by
  rw [Int32.lt_iff_toInt_lt]
  have h0 : (0 : Int32).toInt = 0 := by decide
  omega
theorem nn_le {x : Int32} (h : 0 ≤ x.toInt) : 0 ≤ x := by
  rw [Int32.le_iff_toInt_le]
  have h0 : (0 : Int32).toInt = 0 := by decide
  omega
theorem canGo_eq {z : zT} {h g : ph_H} {t : Int32} (R : RC h g) (I : IM z g) (ht : iv 0 3 t) : FX3_canGo_s t h = FX12_canGo t g := by
  have en := ended_eq R I ht
  have md := R.2.2.1 _ (t_lt ht)
  have k1 : (-1 : Int32) < 0 := by decide
  unfold FX3_canGo_s FX12_canGo FX3_canGo_s_137 FX12_canGo_107 FX12_canGo_108 FX12_canGo_144
  rw [en]
  by_cases e : g 12 t.toNatClampNeg = 24
  · simp (decide := true) only [e, ↓reduceIte]
    repeat' split
    all_goals rfl
  · obtain ⟨p0, p1, p2, p3⟩ := parts R I ht e
    rcases md with ⟨m, st, as, wk⟩ | ⟨m, st, as, wk⟩ | ⟨m, st, as, q, wk⟩ | ⟨m, st, as, wk, q⟩
    · simp (decide := true) only [m, st, ↓reduceIte]
    · simp (decide := true) only [m, st, as, wk, e, k1, p0, p1, ↓reduceIte]
      by_cases o : g 2 ((24 * t) + g 12 t.toNatClampNeg).toNatClampNeg = 12
      · rw [slot_eq t _ g, lock_eq R (sl_lt ht)]
        by_cases l : FX12_isLock (FX12_local t (g 3 ((24 * t) + g 12 t.toNatClampNeg).toNatClampNeg) g) g = 0
        · simp (decide := true) only [o, l, k1, ↓reduceIte]
        · have l0 := isLock_t l
          have lo := own_at R (sl_lt ht) l0
          obtain ⟨a, b, c⟩ := refs R (sl_lt ht) l0
          have nn := nn_t (x := g 11 (FX12_local t (g 3 ((24 * t) + g 12 t.toNatClampNeg).toNatClampNeg) g).toNatClampNeg) (by omega)
          simp (decide := true) only [o, l, nn, ↓reduceIte]
          by_cases f : g 17 (g 11 (FX12_local t (g 3 ((24 * t) + g 12 t.toNatClampNeg).toNatClampNeg) g).toNatClampNeg).toNatClampNeg < 0
          · rw [if_pos f, if_pos ((OW_free lo).mpr f)]
          · rw [if_neg f, if_neg (fun w => f ((OW_free lo).mp w))]
            by_cases u : g 17 (g 11 (FX12_local t (g 3 ((24 * t) + g 12 t.toNatClampNeg).toNatClampNeg) g).toNatClampNeg).toNatClampNeg = t
            · rw [if_pos u, if_pos ((OW_own lo ht).mpr u)]
            · rw [if_neg u, if_neg (fun w => u ((OW_own lo ht).mp w))]
      · simp (decide := true) only [o, ↓reduceIte]
    · unfold iv at q
      have nn := nn_t q.1
      simp (decide := true) only [m, st, as, nn, e, ↓reduceIte]
    · have lv := (R.2.2.2.2.2.2.2.1 _ (t_lt ht)).2
      rw [wk] at lv
      have qn := iv_nat q rfl
      have ow := (R.2.2.2.1.2 (h 20 t.toNatClampNeg).toNatClampNeg (by omega)).2.2.1
      unfold iv at q
      have nn := nn_t q.1
      simp (decide := true) only [m, st, as, wk, k1, nn, e, ↓reduceIte]
      by_cases f : g 17 (h 20 t.toNatClampNeg).toNatClampNeg < 0
      · rw [if_pos ((OW_free ow).mpr f), if_neg (fun w => nn_of w f)]
      · rw [if_neg (fun w => f ((OW_free ow).mp w)), if_pos (nlt f)]
end MG_48_x01A2
section MG_48_x02A3
/-! primitives: what one write on each side does to the relation -/
def rsf (i : Nat) : Bool := !(i == 7 || i == 18 || i == 23 || i == 33 || i == 34)
theorem rsf_ne {i : Nat} (q : rsf i = true) : ¬ 7 = i ∧ ¬ 18 = i ∧ ¬ 23 = i ∧ ¬ 33 = i ∧ ¬ 34 = i := by
  unfold rsf at q
  simp only [Bool.not_eq_true', Bool.or_eq_false_iff, beq_eq_false_iff_ne, ne_eq] at q
  omega
theorem RC.cs {h g : ph_H} (R : RC h g) {i : Nat} {v : Int32} (q : 12 < i) : RC (hs h 15 i v) g := by
  obtain ⟨r1, r2, r3, r4, r5, r6, r7⟩ := R
  have q0 : ¬ 10 = i := by omega
  have q1 : ¬ 11 = i := by omega
  have q2 : ¬ 12 = i := by omega
  refine ⟨?_, ?_, ?_, ?_, ?_, ?_, r7⟩
  · simpa [Rsl, hs_get] using r1
  · simpa [Rat, hs_get] using r2
  · simpa [Rmd, hs_get] using r3
  · simpa [Rth, hs_get, q0] using r4
  · simpa [Rin, hs_get, q1, q2] using r5
  · simpa [Rpr, hs_get] using r6
theorem RC.rs {h g : ph_H} (R : RC h g) {i : Nat} {v : Int32} (q : rsf i = true) : RC h (hs g 0 i v) := by
  obtain ⟨r1, r2, r3, r4, r5, r6, r7⟩ := R
  obtain ⟨q0, q1, q2, q3, q4⟩ := rsf_ne q
  refine ⟨?_, ?_, ?_, ?_, ?_, ?_, ?_⟩
  · simpa [Rsl, hs_get] using r1
  · simpa [Rat, hs_get] using r2
  · simpa [Rmd, hs_get] using r3
  · simpa [Rth, hs_get, q1] using r4
  · simpa [Rin, kn, vi, hs_get, q0, q2, q3, q4] using r5
  · simpa [Rpr, hs_get] using r6
  · simpa [LV, hs_get, q1] using r7
theorem RC.slot {h g : ph_H} (R : RC h g) {k : Nat} {kd v : Int32} (q : kd = 0 ∨ (0 ≤ v.toInt ∧ v.toInt < (g 0 18).toInt ∧ g 16 v.toNatClampNeg = kd)) : RC (hs (hs h 16 k kd) 17 k v) (hs (hs g 10 k kd) 11 k v) := by
  obtain ⟨r1, r2, r3, r4, r5, r6, r7⟩ := R
  refine ⟨?_, ?_, ?_, ?_, ?_, ?_, ?_⟩
  · intro i hi
    have := r1 i hi
    simp only [hs_get]
    by_cases e : i = k
    · simp [e]
    · simpa [e] using this
  · simpa [Rat, hs_get] using r2
  · simpa [Rmd, hs_get] using r3
  · simpa [Rth, hs_get] using r4
  · simpa [Rin, kn, vi, hs_get] using r5
  · simpa [Rpr, hs_get] using r6
  · refine ⟨fun i hi => ?_, by simpa [hs_get] using r7.2.1, by simpa [hs_get] using r7.2.2⟩
    have := r7.1 i hi
    by_cases e : i = k
    · simpa [hs_get, e] using q
    · simpa [hs_get, e] using this
theorem RC.at {h g : ph_H} (R : RC h g) {t : Nat} {a : Int32} : RC (hs h 18 t a) (hs g 12 t (nrm (g 1 t) a)) := by
  obtain ⟨r1, r2, r3, r4, r5, r6, r7⟩ := R
  refine ⟨?_, ?_, ?_, ?_, ?_, ?_, ?_⟩
  · simpa [Rsl, hs_get] using r1
  · intro u hu
    have := r2 u hu
    by_cases e : u = t
    · simp [hs_get, e]
    · simpa [hs_get, e] using this
  · simpa [Rmd, hs_get] using r3
  · simpa [Rth, hs_get] using r4
  · simpa [Rin, kn, vi, hs_get] using r5
  · simpa [Rpr, hs_get] using r6
  · simpa [LV, hs_get] using r7
theorem RC.own {h g : ph_H} (R : RC h g) {x : Nat} {c r : Int32} (q : OW c r) : RC (hs h 23 x c) (hs g 17 x r) := by
  obtain ⟨r1, r2, r3, r4, r5, r6, r7⟩ := R
  refine ⟨?_, ?_, ?_, ⟨?_, ?_⟩, ?_, ?_, ?_⟩
  · simpa [Rsl, hs_get] using r1
  · simpa [Rat, hs_get] using r2
  · simpa [Rmd, hs_get] using r3
  · simpa [hs_get] using r4.1
  · intro y hy
    have := r4.2 y (by simpa [hs_get] using hy)
    by_cases e : y = x
    · subst e
      simpa [hs_get, q] using ⟨this.1, this.2.1, this.2.2.2⟩
    · simpa [hs_get, e] using this
  · simpa [Rin, kn, vi, hs_get] using r5
  · simpa [Rpr, hs_get] using r6
  · simpa [LV, hs_get] using r7
theorem RC.row {h g : ph_H} (R : RC h g) {j : Nat} {v : Int32} : RC (hs h 24 j v) (hs g 19 j v) := by
  obtain ⟨r1, r2, r3, r4, r5, r6, r7⟩ := R
  refine ⟨?_, ?_, ?_, ⟨?_, ?_⟩, ?_, ?_, ?_⟩
  · simpa [Rsl, hs_get] using r1
  · simpa [Rat, hs_get] using r2
  · simpa [Rmd, hs_get] using r3
  · simpa [hs_get] using r4.1
  · intro y hy
    have := r4.2 y (by simpa [hs_get] using hy)
    refine ⟨by simpa [hs_get] using this.1, by simpa [hs_get] using this.2.1, by simpa [hs_get] using this.2.2.1, fun i hi => ?_⟩
    have w := this.2.2.2 i (by simpa [hs_get] using hi)
    simp only [hs_get]
    by_cases e : 16 * y + i = j
    · simp [e]
    · simpa [e] using w
  · simpa [Rin, kn, vi, hs_get] using r5
  · simpa [Rpr, hs_get] using r6
  · simpa [LV, hs_get] using r7
/-- places of rows that no THING has yet -/
theorem RC.rowc {z : zT} {h h' g : ph_H} (R : RC h g) (I : IM z g) (hf : ∀ p i, ¬ p = 24 → h' p i = h p i) (hr : ∀ i : Nat, (i : Int) < 16 * (g 0 18).toInt → h' 24 i = h 24 i) : RC h' g := by
  obtain ⟨r1, r2, r3, r4, r5, r6, r7⟩ := R
  refine ⟨?_, ?_, ?_, ⟨?_, ?_⟩, ?_, ?_, r7⟩
  · simpa [Rsl, hf] using r1
  · simpa [Rat, hf] using r2
  · simpa [Rmd, hf] using r3
  · simpa [hf] using r4.1
  · intro y hy
    have := r4.2 y hy
    refine ⟨by simpa [hf] using this.1, by simpa [hf] using this.2.1, by simpa [hf] using this.2.2.1, fun i hi => ?_⟩
    have w := this.2.2.2 i hi
    have s16 : iv 0 16 (g 18 y) := IMv I 18 y
    unfold iv at s16
    rw [hr _ (by omega)]
    exact w
  · simpa [Rin, hf] using r5
  · simpa [Rpr, hf] using r6
theorem RC.rowr {z : zT} {h g g' : ph_H} (R : RC h g) (I : IM z g) (hf : ∀ p i, ¬ p = 19 → g' p i = g p i) (hr : ∀ i : Nat, (i : Int) < 16 * (g 0 18).toInt → g' 19 i = g 19 i) : RC h g' := by
  obtain ⟨r1, r2, r3, r4, r5, r6, r7⟩ := R
  refine ⟨?_, ?_, ?_, ⟨?_, ?_⟩, ?_, ?_, ?_⟩
  · simpa [Rsl, hf] using r1
  · simpa [Rat, hf] using r2
  · simpa [Rmd, hf] using r3
  · simpa [hf] using r4.1
  · intro y hy
    have hy : (y : Int) < (g 0 18).toInt := by simpa [hf] using hy
    have := r4.2 y hy
    refine ⟨by simpa [hf] using this.1, by simpa [hf] using this.2.1, by simpa [hf] using this.2.2.1, fun i hi => ?_⟩
    have hi : (i : Int) < (g 18 y).toInt := by simpa [hf] using hi
    have w := this.2.2.2 i hi
    have s16 : iv 0 16 (g 18 y) := IMv I 18 y
    unfold iv at s16
    rw [hr _ (by omega)]
    exact w
  · simpa [Rin, kn, vi, hf] using r5
  · simpa [Rpr, hf] using r6
  · simpa [LV, hf] using r7
theorem RC.md {h g h' g' : ph_H} {t : Nat} (R : RC h g) (hc : ∀ k i, ¬ (k = 19 ∧ i = t) → ¬ (k = 20 ∧ i = t) → h' k i = h k i) (hr : ∀ k i, ¬ (k = 13 ∧ i = t) → ¬ (k = 14 ∧ i = t) → ¬ (k = 15 ∧ i = t) → g' k i = g k i) (m : t < 4 → MD (h' 19 t) (h' 20 t) (g' 13 t) (g' 14 t) (g' 15 t)) (l : t < 4 → (g' 14 t).toInt < (g 0 18).toInt ∧ (g' 15 t).toInt < (g 0 18).toInt) : RC h' g' := by
  obtain ⟨r1, r2, r3, r4, r5, r6, r7⟩ := R
  have c : ∀ k i, ¬ k = 19 → ¬ k = 20 → h' k i = h k i := fun k i a b => hc k i (fun w => a w.1) (fun w => b w.1)
  have r : ∀ k i, ¬ k = 13 → ¬ k = 14 → ¬ k = 15 → g' k i = g k i := fun k i a b c => hr k i (fun w => a w.1) (fun w => b w.1) (fun w => c w.1)
  have d : ∀ i, i ≠ t → h' 19 i = h 19 i ∧ h' 20 i = h 20 i := fun i e => ⟨hc _ _ (fun w => e w.2) (fun w => e w.2), hc _ _ (fun w => e w.2) (fun w => e w.2)⟩
  have s : ∀ k i, i ≠ t → g' k i = g k i := fun k i e => hr _ _ (fun w => e w.2) (fun w => e w.2) (fun w => e w.2)
  refine ⟨?_, ?_, ?_, ?_, ?_, ?_, ?_⟩
  · simpa [Rsl, c, r] using r1
  · simpa [Rat, c, r] using r2
  · intro u hu
    by_cases e : u = t
    · rw [e]
      exact m (e ▸ hu)
    · rw [(d u e).1, (d u e).2, s _ u e, s _ u e, s _ u e]
      exact r3 u hu
  · simpa [Rth, c, r] using r4
  · simpa [Rin, kn, vi, c, r] using r5
  · simpa [Rpr, c, r] using r6
  · refine ⟨by simpa [r] using r7.1, fun u hu => ?_, by simpa [r] using r7.2.2⟩
    rw [r 0 18 (by decide) (by decide) (by decide)]
    by_cases e : u = t
    · rw [e]
      exact l (e ▸ hu)
    · rw [s _ u e, s _ u e]
      exact r7.2.1 u hu
theorem MD0 {m q st as wk : Int32} (d : MD m q st as wk) (e : m = 0) : st = 0 ∧ as = -1 ∧ wk = -1 := by
  rcases d with ⟨a, b⟩ | ⟨a, b⟩ | ⟨a, b⟩ | ⟨a, b⟩
  · exact b
  all_goals exact absurd (e.symm.trans a) (by decide)
theorem MD1 {m q st as wk : Int32} (d : MD m q st as wk) (e : m = 1) : st = 1 ∧ as = -1 ∧ wk = -1 := by
  rcases d with ⟨a, b⟩ | ⟨a, b⟩ | ⟨a, b⟩ | ⟨a, b⟩
  · exact absurd (e.symm.trans a) (by decide)
  · exact b
  all_goals exact absurd (e.symm.trans a) (by decide)
theorem MD2 {m q st as wk : Int32} (d : MD m q st as wk) (e : m = 2) : st = 1 ∧ as = q ∧ iv 0 11 q ∧ wk = -1 := by
  rcases d with ⟨a, b⟩ | ⟨a, b⟩ | ⟨a, b⟩ | ⟨a, b⟩
  · exact absurd (e.symm.trans a) (by decide)
  · exact absurd (e.symm.trans a) (by decide)
  · exact b
  · exact absurd (e.symm.trans a) (by decide)
theorem MD3 {m q st as wk : Int32} (d : MD m q st as wk) (e : m = 3) : st = 1 ∧ as = -1 ∧ wk = q ∧ iv 0 11 q := by
  rcases d with ⟨a, b⟩ | ⟨a, b⟩ | ⟨a, b⟩ | ⟨a, b⟩
  · exact absurd (e.symm.trans a) (by decide)
  · exact absurd (e.symm.trans a) (by decide)
  · exact absurd (e.symm.trans a) (by decide)
  · exact b
theorem hs_self (h : ph_H) (k i : Nat) (v : Int32) : hs h k i v k i = v := by rw [hs_get, if_pos rfl, if_pos rfl]
theorem th_nn {z : zT} {g : ph_H} (I : IM z g) : 0 ≤ (g 0 18).toInt ∧ (g 0 18).toInt ≤ 12 := IMv I 0 18
theorem RC.start {z : zT} {h g : ph_H} (R : RC h g) (I : IM z g) {t : Nat} (ht : t < 4) (e : h 19 t = 0) : RC (hs h 19 t 1) (hs g 13 t 1) := by
  have m := MD0 (R.2.2.1 t ht) e
  refine R.md (t := t) (fun k i a b => hs_o a) (fun k i a b c => hs_o a) (fun _ => ?_) (fun _ => ?_)
  · rw [hs_self, hs_self, hs_o (by simp), hs_o (by simp), hs_o (by simp)]
    exact Or.inr (Or.inl ⟨rfl, rfl, m.2⟩)
  · rw [hs_o (by simp), hs_o (by simp)]
    exact R.2.2.2.2.2.2.2.1 t ht
theorem RC.rise {z : zT} {h g : ph_H} (R : RC h g) (I : IM z g) {t : Nat} (ht : t < 4) (e : h 19 t = 3) : RC (hs h 19 t 1) (hs g 15 t (-1)) := by
  have m := MD3 (R.2.2.1 t ht) e
  refine R.md (t := t) (fun k i a b => hs_o a) (fun k i a b c => hs_o c) (fun _ => ?_) (fun _ => ?_)
  · rw [hs_self, hs_self, hs_o (by simp), hs_o (by simp), hs_o (by simp)]
    exact Or.inr (Or.inl ⟨rfl, m.1, m.2.1, rfl⟩)
  · rw [hs_self, hs_o (by simp)]
    have n1 : (-1 : Int32).toInt = -1 := by decide
    have := th_nn I
    exact ⟨(R.2.2.2.2.2.2.2.1 t ht).1, by omega⟩
theorem RC.lie {z : zT} {h g : ph_H} (R : RC h g) (I : IM z g) {t : Nat} {q : Int32} (ht : t < 4) (e : h 19 t = 1) (hq : iv 0 11 q) (hl : q.toInt < (g 0 18).toInt) : RC (hs (hs h 19 t 2) 20 t q) (hs g 14 t q) := by
  have m := MD1 (R.2.2.1 t ht) e
  refine R.md (t := t) (fun k i a b => by rw [hs_o b, hs_o a]) (fun k i a b c => hs_o b) (fun _ => ?_) (fun _ => ?_)
  · rw [hs_self, hs_self, hs_o (by simp), hs_self, hs_o (by simp), hs_o (by simp)]
    exact Or.inr (Or.inr (Or.inl ⟨rfl, m.1, rfl, hq, m.2.2⟩))
  · rw [hs_self, hs_o (by simp)]
    exact ⟨hl, (R.2.2.2.2.2.2.2.1 t ht).2⟩
theorem RC.wake {z : zT} {h g : ph_H} (R : RC h g) (I : IM z g) {t : Nat} (ht : t < 4) (e : h 19 t = 2) : RC (hs h 19 t 3) (hs (hs g 15 t (g 14 t)) 14 t (-1)) := by
  have m := MD2 (R.2.2.1 t ht) e
  refine R.md (t := t) (fun k i a b => hs_o a) (fun k i a b c => by rw [hs_o b, hs_o c]) (fun _ => ?_) (fun _ => ?_)
  · rw [hs_self, hs_self, hs_o (by simp), hs_o (by simp), hs_o (by simp), hs_o (by simp), hs_self]
    exact Or.inr (Or.inr (Or.inr ⟨rfl, m.1, rfl, m.2.1, m.2.2.1⟩))
  · rw [hs_self, hs_o (by simp), hs_self]
    have n1 : (-1 : Int32).toInt = -1 := by decide
    have := th_nn I
    exact ⟨by omega, (R.2.2.2.2.2.2.2.1 t ht).1⟩
theorem RC.take {h g : ph_H} (R : RC h g) {v : Int32} (q : v.toInt ≤ (kn g).toInt) : RC (hs h 15 12 v) (hs g 0 23 v) := by
  obtain ⟨r1, r2, r3, r4, r5, r6, r7⟩ := R
  refine ⟨?_, ?_, ?_, ?_, ⟨?_, ?_, ?_, ?_⟩, ?_, ?_⟩
  · simpa [Rsl, hs_get] using r1
  · simpa [Rat, hs_get] using r2
  · simpa [Rmd, hs_get] using r3
  · simpa [Rth, hs_get] using r4
  · simp [hs_get]
  · simpa [kn, hs_get] using r5.2.1
  · simpa [kn, hs_get] using q
  · simpa [kn, vi, hs_get] using r5.2.2.2
  · simpa [Rpr, hs_get] using r6
  · simpa [LV, hs_get] using r7
/-- a new THING -/
theorem RC.new {z : zT} {h g : ph_H} (R : RC h g) (I : IM z g) {kd sz : Int32} (hl : (g 0 18).toInt < 12) (hr : ∀ i : Nat, (i : Int) < sz.toInt → h 24 (16 * (g 0 18).toNatClampNeg + i) = g 19 (16 * (g 0 18).toNatClampNeg + i)) :
    RC (hs (hs (hs (hs h 15 10 (g 0 18 + 1)) 21 (g 0 18).toNatClampNeg kd) 22 (g 0 18).toNatClampNeg sz) 23 (g 0 18).toNatClampNeg (-2)) (hs (hs (hs (hs g 16 (g 0 18).toNatClampNeg kd) 17 (g 0 18).toNatClampNeg (-1)) 18 (g 0 18).toNatClampNeg sz) 0 18 (g 0 18 + 1)) := by
  obtain ⟨r1, r2, r3, r4, r5, r6, r7⟩ := R
  have tn := th_nn I
  have k1 : (1 : Int32).toInt = 1 := by decide
  have e1 : (g 0 18 + 1).toInt = (g 0 18).toInt + 1 := by rw [ti_add (by omega) (by omega), k1]
  have e2 : ((g 0 18).toNatClampNeg : Int) = (g 0 18).toInt := by
    rw [← Int32.toNat_toInt]
    omega
  refine ⟨?_, ?_, ?_, ⟨?_, ?_⟩, ?_, ?_, ?_⟩
  · simpa [Rsl, hs_get] using r1
  · simpa [Rat, hs_get] using r2
  · simpa [Rmd, hs_get] using r3
  · simp [hs_get]
  · intro y hy
    have hy : (y : Int) < (g 0 18 + 1).toInt := by simpa [hs_get] using hy
    by_cases e : y = (g 0 18).toNatClampNeg
    · subst e
      simp only [hs_get]
      have ow : OW (-2) (-1) := Or.inl ⟨rfl, rfl⟩
      refine ⟨by simp, by simp, by simpa using ow, ?_⟩
      simpa using hr
    · have := r4.2 y (by omega)
      simpa [hs_get, e] using this
  · simpa [Rin, kn, vi, hs_get] using r5
  · simpa [Rpr, hs_get] using r6
  · refine ⟨fun i hi => ?_, fun t ht => ?_, by simpa [hs_get] using r7.2.2⟩
    · rcases r7.1 i hi with c | ⟨c1, c2, c3⟩
      · left
        simpa [hs_get] using c
      · right
        have e3 : ((g 11 i).toNatClampNeg : Int) = (g 11 i).toInt := by
          rw [← Int32.toNat_toInt]
          omega
        have e4 : ¬ (g 11 i).toNatClampNeg = (g 0 18).toNatClampNeg := by omega
        refine ⟨by simpa [hs_get] using c1, ?_, by simpa [hs_get, e4] using c3⟩
        have : (g 11 i).toInt < (g 0 18 + 1).toInt := by omega
        simpa [hs_get] using this
    · have := r7.2.1 t ht
      have w : (g 14 t).toInt < (g 0 18 + 1).toInt ∧ (g 15 t).toInt < (g 0 18 + 1).toInt := by omega
      simpa [hs_get] using w
end MG_48_x02A3
section MG_48_x03A4
/-! what the reference does at an INSTRUCTION of each kind, written out -/
theorem and1_even (x : Int32) : (x &&& 1) = 0 ↔ (x - x / 2 * 2) = 0 := by
  have k2 : (2 : Int32).toInt = 2 := by decide
  have h0 : (0 : Int32).toInt = 0 := by decide
  obtain ⟨e1, e2⟩ := irem_ti (x := x) (n := 2) (m := 2) k2 (by decide) (by decide)
  have a : (x &&& 1) = 0 ↔ x.toBitVec.toNat % 2 = 0 := by
    rw [← Nat.and_one_is_mod]
    constructor
    · intro h
      have : (x &&& 1).toBitVec.toNat = 0 := by rw [h]; rfl
      rw [Int32.toBitVec_and, BitVec.toNat_and] at this
      exact this
    · intro h
      apply Int32.toBitVec_inj.1
      apply BitVec.eq_of_toNat_eq
      rw [Int32.toBitVec_and, BitVec.toNat_and]
      exact h
  have b : (x - x / 2 * 2) = 0 ↔ x.toInt.tmod 2 = 0 := by
    constructor
    · intro h
      rw [h] at e1
      omega
    · intro h
      apply tI
      rw [e1, e2, h, h0]
  rw [a, b]
  have hr1 : -2 < x.toInt.tmod 2 := Int.lt_tmod_of_pos x.toInt (by omega)
  have hr2 : x.toInt.tmod 2 < 2 := Int.tmod_lt_of_pos x.toInt (by omega)
  have c : x.toInt.tmod 2 = 0 ↔ x.toInt % 2 = 0 := by omega
  rw [c]
  have c : x.toInt = x.toBitVec.toInt := rfl
  rw [c, BitVec.toInt_eq_toNat_cond]
  have d := x.toBitVec.isLt
  split <;> omega
theorem rowp_iff {v s : Int32} (hs : iv 0 16 s) : FX12_isIn v.toInt64 0 ((s - 1).toInt64) = 0 ↔ ¬ (0 ≤ v.toInt ∧ v.toInt < s.toInt) := by
  have k0 : (0 : Int64).toInt = 0 := by decide
  have k1 : (1 : Int32).toInt = 1 := by decide
  unfold iv at hs
  have e : (s - 1).toInt = s.toInt - 1 := by rw [ti_sub (by omega) (by omega), k1]
  constructor
  · intro h
    have := isIn_f h
    rw [Int64.le_iff_toInt_le, Int64.le_iff_toInt_le, Int32.toInt_toInt64, Int32.toInt_toInt64, e, k0] at this
    omega
  · intro h
    apply Classical.byContradiction
    intro c
    have := isIn_t c
    rw [Int64.le_iff_toInt_le, Int64.le_iff_toInt_le, Int32.toInt_toInt64, Int32.toInt_toInt64, e, k0] at this
    omega
theorem nt29 : ∀ (q : Nat) (x3 x4 : Int32) (g : ph_H), iv 0 11 x3 → iv 0 16 x4 → 16 - x4.toInt < (q : Int) → ∃ g', FX12_newThing_29 q x3 x4 g = (x3, hs g' 0 18 (g 0 18 + 1)) ∧ (∀ p i, ¬ p = 19 → g' p i = g p i) ∧ (∀ j : Nat, x4.toInt ≤ j → j < 16 → g' 19 (16 * x3.toNatClampNeg + j) = 0) ∧ (∀ i : Nat, (i : Int) < 16 * x3.toInt + x4.toInt → g' 19 i = g 19 i)
  | 0, x3, x4, g, f3, f4, m => by unfold iv at f4; omega
  | q + 1, x3, x4, g, f3, f4, m => by
    have k1 : (1 : Int32).toInt = 1 := by decide
    have k16 : (16 : Int32).toInt = 16 := by decide
    have n3 := iv_nat f3 rfl
    unfold iv at f3 f4
    unfold FX12_newThing_29
    by_cases c : 16 ≤ x4
    · rw [if_pos c]
      rw [Int32.le_iff_toInt_le, k16] at c
      exact ⟨g, rfl, fun _ _ _ => rfl, fun j a b => by omega, fun _ _ => rfl⟩
    · rw [if_neg c]
      rw [Int32.le_iff_toInt_le, k16] at c
      have e4 : (x4 + 1).toInt = x4.toInt + 1 := by rw [ti_add (by omega) (by omega), k1]
      have em : (16 * x3).toInt = 16 * x3.toInt := by rw [ti_mul (by rw [k16]; omega) (by rw [k16]; omega), k16]
      have ea : (16 * x3 + x4).toInt = 16 * x3.toInt + x4.toInt := by rw [ti_add (by omega) (by omega), em]
      have ix : ((16 * x3 + x4).toNatClampNeg : Int) = 16 * x3.toInt + x4.toInt := by
        rw [← Int32.toNat_toInt]
        omega
      obtain ⟨g', a1, a2, a3, a4⟩ := nt29 q x3 (x4 + 1) (hs g 19 (16 * x3 + x4).toNatClampNeg 0) f3 (by unfold iv; omega) (by omega)
      refine ⟨g', ?_, fun p i hp => ?_, fun j hj hk => ?_, fun i hi => ?_⟩
      · rw [a1, hs_o (by simp)]
      · rw [a2 p i hp, hs_o (fun w => hp w.1)]
      · by_cases d : (j : Int) = x4.toInt
        · rw [a4 _ (by omega), hs_get, if_pos rfl, if_pos (by omega)]
        · exact a3 j (by omega) hk
      · rw [a4 i (by omega), hs_o (fun w => by omega)]
/-- a new THING of the reference -/
theorem nt_eq {z : zT} {k n : Int32} {g : ph_H} (I : IM z g) (hl : (g 0 18).toInt < 12) : ∃ g', FX12_newThing k n g = (g 0 18, hs (hs (hs (hs g' 16 (g 0 18).toNatClampNeg k) 17 (g 0 18).toNatClampNeg (-1)) 18 (g 0 18).toNatClampNeg n) 0 18 (g 0 18 + 1)) ∧ (∀ p i, ¬ p = 19 → g' p i = g p i) ∧ (∀ j : Nat, j < 16 → g' 19 (16 * (g 0 18).toNatClampNeg + j) = 0) ∧ (∀ i : Nat, (i : Int) < 16 * (g 0 18).toInt → g' 19 i = g 19 i) := by
  have tn := th_nn I
  have k0 : (0 : Int32).toInt = 0 := by decide
  unfold FX12_newThing
  obtain ⟨g', a1, a2, a3, a4⟩ := nt29 2000 (g 0 18) 0 (hs (hs (hs g 16 (g 0 18).toNatClampNeg k) 17 (g 0 18).toNatClampNeg (-1)) 18 (g 0 18).toNatClampNeg n) ⟨tn.1, by omega⟩ ⟨by decide, by decide⟩ (by omega)
  refine ⟨fun p i => if p = 19 then g' 19 i else g p i, ?_, fun p i hp => if_neg hp, fun j hj => ?_, fun i hi => ?_⟩
  · rw [a1]
    apply Prod.ext
    · rfl
    · apply hs_ext
      intro p i
      show hs g' 0 18 _ p i = hs _ 0 18 _ p i
      by_cases e : p = 19
      · subst e
        simp [hs_get]
      · have := a2 p i e
        simp only [hs_get] at this ⊢
        rw [this]
        simp [e]
  · simp only [if_true]
    exact a3 j (by omega) hj
  · simp only [if_true]
    rw [a4 i (by omega)]
    simp [hs_get]
theorem nt_1 {z : zT} {k n : Int32} {g : ph_H} (I : IM z g) (hl : (g 0 18).toInt < 12) : (FX12_newThing k n g).1 = g 0 18 := by
  obtain ⟨g', a, b⟩ := nt_eq (k := k) (n := n) I hl
  rw [a]
theorem nt_o {z : zT} {k n : Int32} {g : ph_H} (I : IM z g) (hl : (g 0 18).toInt < 12) {p i : Nat} (h0 : ¬ p = 0) (h1 : ¬ p = 16) (h2 : ¬ p = 17) (h3 : ¬ p = 18) (h4 : ¬ p = 19) : (FX12_newThing k n g).2 p i = g p i := by
  obtain ⟨g', a, b, c⟩ := nt_eq (k := k) (n := n) I hl
  rw [a]
  simp [hs_get, h0, h1, h2, h3, b p i h4]
section
variable {z : zT} {g : ph_H} {t i : Int32}
theorem ins_0 (o : g 2 i.toNatClampNeg = 0) : FX12_instruct t i g = FX12_goTo t ((g 12 (Int32.toNatClampNeg t) + 1)) (hs (hs (hs g 0 25 0) 10 (Int32.toNatClampNeg (FX12_local t (g 3 (Int32.toNatClampNeg i)) g)) 0) 11 (Int32.toNatClampNeg (FX12_local t (g 3 (Int32.toNatClampNeg i)) g)) (g 4 i.toNatClampNeg)) := by
  unfold FX12_instruct FX12_instruct_98 FX12_instruct_102 FX12_instruct_144 FX12_instruct_148 FX12_instruct_149 FX12_instruct_177 FX12_instruct_195 FX12_instruct_204 FX12_instruct_251 FX12_why FX12_work FX12_workPlain FX12_why_99 FX12_why_169 FX12_why_196 FX12_why_266 FX12_work_88 FX12_work_111 FX12_work_134 FX12_work_152 FX12_work_155 FX12_work_212 FX12_workPlain_116 FX12_workPlain_153 FX12_workPlain_191 FX12_workPlain_206 FX12_workPlain_219 FX12_workPlain_222 FX12_workPlain_256 FX12_workPlain_259 FX12_set
  simp (decide := true) only [o, hs_get, ↓reduceIte, hs_hs]
theorem ins_1 (o : g 2 i.toNatClampNeg = 1) : FX12_instruct t i g = FX12_goTo t ((g 12 (Int32.toNatClampNeg t) + 1)) (hs (hs (hs (hs g 0 25 0) 0 29 (FX12_modulo (g 4 i.toNatClampNeg) 12)) 10 (Int32.toNatClampNeg (FX12_local t (g 3 (Int32.toNatClampNeg i)) g)) (g 10 (FX12_modulo (g 4 i.toNatClampNeg) 12).toNatClampNeg)) 11 (Int32.toNatClampNeg (FX12_local t (g 3 (Int32.toNatClampNeg i)) g)) (g 11 (FX12_modulo (g 4 i.toNatClampNeg) 12).toNatClampNeg)) := by
  unfold FX12_instruct FX12_instruct_98 FX12_instruct_102 FX12_instruct_144 FX12_instruct_148 FX12_instruct_149 FX12_instruct_177 FX12_instruct_195 FX12_instruct_204 FX12_instruct_251 FX12_why FX12_work FX12_workPlain FX12_why_99 FX12_why_169 FX12_why_196 FX12_why_266 FX12_work_88 FX12_work_111 FX12_work_134 FX12_work_152 FX12_work_155 FX12_work_212 FX12_workPlain_116 FX12_workPlain_153 FX12_workPlain_191 FX12_workPlain_206 FX12_workPlain_219 FX12_workPlain_222 FX12_workPlain_256 FX12_workPlain_259 FX12_set
  simp (decide := true) only [o, hs_get, ↓reduceIte, hs_hs]
theorem ins_2 (o : g 2 i.toNatClampNeg = 2) : FX12_instruct t i g = FX12_goTo t ((g 12 (Int32.toNatClampNeg t) + 1)) (hs (hs (hs (hs g 0 25 0) 0 30 (FX12_modulo (g 3 i.toNatClampNeg) 12)) 10 (FX12_modulo (g 3 i.toNatClampNeg) 12).toNatClampNeg (g 10 (Int32.toNatClampNeg (FX12_local t (g 4 (Int32.toNatClampNeg i)) g)))) 11 (FX12_modulo (g 3 i.toNatClampNeg) 12).toNatClampNeg (g 11 (Int32.toNatClampNeg (FX12_local t (g 4 (Int32.toNatClampNeg i)) g)))) := by
  unfold FX12_instruct FX12_instruct_98 FX12_instruct_102 FX12_instruct_144 FX12_instruct_148 FX12_instruct_149 FX12_instruct_177 FX12_instruct_195 FX12_instruct_204 FX12_instruct_251 FX12_why FX12_work FX12_workPlain FX12_why_99 FX12_why_169 FX12_why_196 FX12_why_266 FX12_work_88 FX12_work_111 FX12_work_134 FX12_work_152 FX12_work_155 FX12_work_212 FX12_workPlain_116 FX12_workPlain_153 FX12_workPlain_191 FX12_workPlain_206 FX12_workPlain_219 FX12_workPlain_222 FX12_workPlain_256 FX12_workPlain_259 FX12_set
  simp (decide := true) only [o, hs_get, ↓reduceIte, hs_hs]
theorem ins_3 (o : g 2 i.toNatClampNeg = 3) (c1 : g 10 (Int32.toNatClampNeg (FX12_local t (g 3 (Int32.toNatClampNeg i)) g)) = 0) (c2 : g 10 (Int32.toNatClampNeg (FX12_local t (g 4 (Int32.toNatClampNeg i)) g)) = 0) : FX12_instruct t i g = FX12_goTo t ((g 12 (Int32.toNatClampNeg t) + 1)) (hs (hs (hs g 0 25 0) 10 (Int32.toNatClampNeg (FX12_local t (g 3 (Int32.toNatClampNeg i)) g)) 0) 11 (Int32.toNatClampNeg (FX12_local t (g 3 (Int32.toNatClampNeg i)) g)) (g 11 (Int32.toNatClampNeg (FX12_local t (g 3 (Int32.toNatClampNeg i)) g)) + g 11 (Int32.toNatClampNeg (FX12_local t (g 4 (Int32.toNatClampNeg i)) g)))) := by
  unfold FX12_instruct FX12_instruct_98 FX12_instruct_102 FX12_instruct_144 FX12_instruct_148 FX12_instruct_149 FX12_instruct_177 FX12_instruct_195 FX12_instruct_204 FX12_instruct_251 FX12_why FX12_work FX12_workPlain FX12_why_99 FX12_why_169 FX12_why_196 FX12_why_266 FX12_work_88 FX12_work_111 FX12_work_134 FX12_work_152 FX12_work_155 FX12_work_212 FX12_workPlain_116 FX12_workPlain_153 FX12_workPlain_191 FX12_workPlain_206 FX12_workPlain_219 FX12_workPlain_222 FX12_workPlain_256 FX12_workPlain_259 FX12_set
  simp (decide := true) only [o, c1, c2, hs_get, ↓reduceIte, hs_hs]
theorem ins_4 (o : g 2 i.toNatClampNeg = 4) (c1 : g 10 (Int32.toNatClampNeg (FX12_local t (g 3 (Int32.toNatClampNeg i)) g)) = 0) (c2 : g 10 (Int32.toNatClampNeg (FX12_local t (g 4 (Int32.toNatClampNeg i)) g)) = 0) : FX12_instruct t i g = FX12_goTo t ((g 12 (Int32.toNatClampNeg t) + 1)) (hs (hs (hs g 0 25 0) 10 (Int32.toNatClampNeg (FX12_local t (g 3 (Int32.toNatClampNeg i)) g)) 0) 11 (Int32.toNatClampNeg (FX12_local t (g 3 (Int32.toNatClampNeg i)) g)) (g 11 (Int32.toNatClampNeg (FX12_local t (g 3 (Int32.toNatClampNeg i)) g)) - g 11 (Int32.toNatClampNeg (FX12_local t (g 4 (Int32.toNatClampNeg i)) g)))) := by
  unfold FX12_instruct FX12_instruct_98 FX12_instruct_102 FX12_instruct_144 FX12_instruct_148 FX12_instruct_149 FX12_instruct_177 FX12_instruct_195 FX12_instruct_204 FX12_instruct_251 FX12_why FX12_work FX12_workPlain FX12_why_99 FX12_why_169 FX12_why_196 FX12_why_266 FX12_work_88 FX12_work_111 FX12_work_134 FX12_work_152 FX12_work_155 FX12_work_212 FX12_workPlain_116 FX12_workPlain_153 FX12_workPlain_191 FX12_workPlain_206 FX12_workPlain_219 FX12_workPlain_222 FX12_workPlain_256 FX12_workPlain_259 FX12_set
  simp (decide := true) only [o, c1, c2, hs_get, ↓reduceIte, hs_hs]
theorem ins_5 (o : g 2 i.toNatClampNeg = 5) (c1 : g 10 (Int32.toNatClampNeg (FX12_local t (g 3 (Int32.toNatClampNeg i)) g)) = 0) (c2 : g 10 (Int32.toNatClampNeg (FX12_local t (g 4 (Int32.toNatClampNeg i)) g)) = 0) : FX12_instruct t i g = FX12_goTo t ((g 12 (Int32.toNatClampNeg t) + 1)) (hs (hs (hs g 0 25 0) 10 (Int32.toNatClampNeg (FX12_local t (g 3 (Int32.toNatClampNeg i)) g)) 0) 11 (Int32.toNatClampNeg (FX12_local t (g 3 (Int32.toNatClampNeg i)) g)) (g 11 (Int32.toNatClampNeg (FX12_local t (g 3 (Int32.toNatClampNeg i)) g)) * g 11 (Int32.toNatClampNeg (FX12_local t (g 4 (Int32.toNatClampNeg i)) g)))) := by
  unfold FX12_instruct FX12_instruct_98 FX12_instruct_102 FX12_instruct_144 FX12_instruct_148 FX12_instruct_149 FX12_instruct_177 FX12_instruct_195 FX12_instruct_204 FX12_instruct_251 FX12_why FX12_work FX12_workPlain FX12_why_99 FX12_why_169 FX12_why_196 FX12_why_266 FX12_work_88 FX12_work_111 FX12_work_134 FX12_work_152 FX12_work_155 FX12_work_212 FX12_workPlain_116 FX12_workPlain_153 FX12_workPlain_191 FX12_workPlain_206 FX12_workPlain_219 FX12_workPlain_222 FX12_workPlain_256 FX12_workPlain_259 FX12_set
  simp (decide := true) only [o, c1, c2, hs_get, ↓reduceIte, hs_hs]
theorem ins_6 (o : g 2 i.toNatClampNeg = 6) : FX12_instruct t i g = FX12_goTo t (g 3 i.toNatClampNeg) (hs g 0 25 0) := by
  unfold FX12_instruct FX12_instruct_98 FX12_instruct_102 FX12_instruct_144 FX12_instruct_148 FX12_instruct_149 FX12_instruct_177 FX12_instruct_195 FX12_instruct_204 FX12_instruct_251 FX12_why FX12_work FX12_workPlain FX12_why_99 FX12_why_169 FX12_why_196 FX12_why_266 FX12_work_88 FX12_work_111 FX12_work_134 FX12_work_152 FX12_work_155 FX12_work_212 FX12_workPlain_116 FX12_workPlain_153 FX12_workPlain_191 FX12_workPlain_206 FX12_workPlain_219 FX12_workPlain_222 FX12_workPlain_256 FX12_workPlain_259 FX12_set
  simp (decide := true) only [o, hs_get, ↓reduceIte, hs_hs]
theorem ins_7j (o : g 2 i.toNatClampNeg = 7) (c1 : g 10 (Int32.toNatClampNeg (FX12_local t (g 3 (Int32.toNatClampNeg i)) g)) = 0) (c2 : g 11 (Int32.toNatClampNeg (FX12_local t (g 3 (Int32.toNatClampNeg i)) g)) = 0) : FX12_instruct t i g = FX12_goTo t (g 4 i.toNatClampNeg) (hs g 0 25 0) := by
  unfold FX12_instruct FX12_instruct_98 FX12_instruct_102 FX12_instruct_144 FX12_instruct_148 FX12_instruct_149 FX12_instruct_177 FX12_instruct_195 FX12_instruct_204 FX12_instruct_251 FX12_why FX12_work FX12_workPlain FX12_why_99 FX12_why_169 FX12_why_196 FX12_why_266 FX12_work_88 FX12_work_111 FX12_work_134 FX12_work_152 FX12_work_155 FX12_work_212 FX12_workPlain_116 FX12_workPlain_153 FX12_workPlain_191 FX12_workPlain_206 FX12_workPlain_219 FX12_workPlain_222 FX12_workPlain_256 FX12_workPlain_259 FX12_set
  simp (decide := true) only [o, c1, c2, hs_get, ↓reduceIte, hs_hs]
theorem ins_7n (o : g 2 i.toNatClampNeg = 7) (c1 : g 10 (Int32.toNatClampNeg (FX12_local t (g 3 (Int32.toNatClampNeg i)) g)) = 0) (c2 : ¬ g 11 (Int32.toNatClampNeg (FX12_local t (g 3 (Int32.toNatClampNeg i)) g)) = 0) : FX12_instruct t i g = FX12_goTo t ((g 12 (Int32.toNatClampNeg t) + 1)) (hs g 0 25 0) := by
  unfold FX12_instruct FX12_instruct_98 FX12_instruct_102 FX12_instruct_144 FX12_instruct_148 FX12_instruct_149 FX12_instruct_177 FX12_instruct_195 FX12_instruct_204 FX12_instruct_251 FX12_why FX12_work FX12_workPlain FX12_why_99 FX12_why_169 FX12_why_196 FX12_why_266 FX12_work_88 FX12_work_111 FX12_work_134 FX12_work_152 FX12_work_155 FX12_work_212 FX12_workPlain_116 FX12_workPlain_153 FX12_workPlain_191 FX12_workPlain_206 FX12_workPlain_219 FX12_workPlain_222 FX12_workPlain_256 FX12_workPlain_259 FX12_set
  simp (decide := true) only [o, c1, c2, hs_get, ↓reduceIte, hs_hs]
theorem ins_9 (o : g 2 i.toNatClampNeg = 9) (c1 : g 10 (Int32.toNatClampNeg (FX12_local t (g 4 (Int32.toNatClampNeg i)) g)) = 1) (c2 : g 10 (Int32.toNatClampNeg (FX12_local t (g 5 (Int32.toNatClampNeg i)) g)) = 0) (c3 : ¬ FX12_isIn (g 11 (Int32.toNatClampNeg (FX12_local t (g 5 (Int32.toNatClampNeg i)) g))).toInt64 0 ((g 18 (g 11 (Int32.toNatClampNeg (FX12_local t (g 4 (Int32.toNatClampNeg i)) g))).toNatClampNeg) - 1).toInt64 = 0) : FX12_instruct t i g = FX12_goTo t ((g 12 (Int32.toNatClampNeg t) + 1)) (hs (hs (hs (hs g 0 25 0) 0 29 ((100 + (20 * (g 11 (Int32.toNatClampNeg (FX12_local t (g 4 (Int32.toNatClampNeg i)) g))))) + (g 11 (Int32.toNatClampNeg (FX12_local t (g 5 (Int32.toNatClampNeg i)) g))))) 10 (Int32.toNatClampNeg (FX12_local t (g 3 (Int32.toNatClampNeg i)) g)) 0) 11 (Int32.toNatClampNeg (FX12_local t (g 3 (Int32.toNatClampNeg i)) g)) (g 19 ((16 * (g 11 (Int32.toNatClampNeg (FX12_local t (g 4 (Int32.toNatClampNeg i)) g)))) + (g 11 (Int32.toNatClampNeg (FX12_local t (g 5 (Int32.toNatClampNeg i)) g)))).toNatClampNeg)) := by
  unfold FX12_instruct FX12_instruct_98 FX12_instruct_102 FX12_instruct_144 FX12_instruct_148 FX12_instruct_149 FX12_instruct_177 FX12_instruct_195 FX12_instruct_204 FX12_instruct_251 FX12_why FX12_work FX12_workPlain FX12_why_99 FX12_why_169 FX12_why_196 FX12_why_266 FX12_work_88 FX12_work_111 FX12_work_134 FX12_work_152 FX12_work_155 FX12_work_212 FX12_workPlain_116 FX12_workPlain_153 FX12_workPlain_191 FX12_workPlain_206 FX12_workPlain_219 FX12_workPlain_222 FX12_workPlain_256 FX12_workPlain_259 FX12_set
  simp (decide := true) only [o, c1, c2, c3, hs_get, ↓reduceIte, hs_hs]
theorem ins_10 (o : g 2 i.toNatClampNeg = 10) (c1 : g 10 (Int32.toNatClampNeg (FX12_local t (g 3 (Int32.toNatClampNeg i)) g)) = 1) (c2 : g 10 (Int32.toNatClampNeg (FX12_local t (g 4 (Int32.toNatClampNeg i)) g)) = 0) (c3 : g 10 (Int32.toNatClampNeg (FX12_local t (g 5 (Int32.toNatClampNeg i)) g)) = 0) (c4 : ¬ FX12_isIn (g 11 (Int32.toNatClampNeg (FX12_local t (g 4 (Int32.toNatClampNeg i)) g))).toInt64 0 ((g 18 (g 11 (Int32.toNatClampNeg (FX12_local t (g 3 (Int32.toNatClampNeg i)) g))).toNatClampNeg) - 1).toInt64 = 0) : FX12_instruct t i g = FX12_goTo t ((g 12 (Int32.toNatClampNeg t) + 1)) (hs (hs (hs g 0 25 0) 0 30 ((100 + (20 * (g 11 (Int32.toNatClampNeg (FX12_local t (g 3 (Int32.toNatClampNeg i)) g))))) + (g 11 (Int32.toNatClampNeg (FX12_local t (g 4 (Int32.toNatClampNeg i)) g))))) 19 ((16 * (g 11 (Int32.toNatClampNeg (FX12_local t (g 3 (Int32.toNatClampNeg i)) g)))) + (g 11 (Int32.toNatClampNeg (FX12_local t (g 4 (Int32.toNatClampNeg i)) g)))).toNatClampNeg (g 11 (Int32.toNatClampNeg (FX12_local t (g 5 (Int32.toNatClampNeg i)) g)))) := by
  unfold FX12_instruct FX12_instruct_98 FX12_instruct_102 FX12_instruct_144 FX12_instruct_148 FX12_instruct_149 FX12_instruct_177 FX12_instruct_195 FX12_instruct_204 FX12_instruct_251 FX12_why FX12_work FX12_workPlain FX12_why_99 FX12_why_169 FX12_why_196 FX12_why_266 FX12_work_88 FX12_work_111 FX12_work_134 FX12_work_152 FX12_work_155 FX12_work_212 FX12_workPlain_116 FX12_workPlain_153 FX12_workPlain_191 FX12_workPlain_206 FX12_workPlain_219 FX12_workPlain_222 FX12_workPlain_256 FX12_workPlain_259 FX12_set
  simp (decide := true) only [o, c1, c2, c3, c4, hs_get, ↓reduceIte, hs_hs]
theorem isLock_hs {x : Int32} {g : ph_H} {v : Int32} {j : Nat} : FX12_isLock x (hs g 0 j v) = FX12_isLock x g := by
  unfold FX12_isLock FX12_isLock_20
  simp (decide := true) only [hs_get, ↓reduceIte]
theorem ins_12 (o : g 2 i.toNatClampNeg = 12) (c1 : ¬ FX12_isLock (FX12_local t (g 3 (Int32.toNatClampNeg i)) g) g = 0) (c2 : ¬ g 17 (g 11 (Int32.toNatClampNeg (FX12_local t (g 3 (Int32.toNatClampNeg i)) g))).toNatClampNeg = t) : FX12_instruct t i g = FX12_goTo t ((g 12 (Int32.toNatClampNeg t) + 1)) (hs (hs (hs (hs g 0 25 0) 17 (g 11 (Int32.toNatClampNeg (FX12_local t (g 3 (Int32.toNatClampNeg i)) g))).toNatClampNeg t) 0 31 1) 0 32 (g 11 (Int32.toNatClampNeg (FX12_local t (g 3 (Int32.toNatClampNeg i)) g)))) := by
  unfold FX12_instruct FX12_instruct_98 FX12_instruct_102 FX12_instruct_144 FX12_instruct_148 FX12_instruct_149 FX12_instruct_177 FX12_instruct_195 FX12_instruct_204 FX12_instruct_251 FX12_why FX12_work FX12_workPlain FX12_why_99 FX12_why_169 FX12_why_196 FX12_why_266 FX12_work_88 FX12_work_111 FX12_work_134 FX12_work_152 FX12_work_155 FX12_work_212 FX12_workPlain_116 FX12_workPlain_153 FX12_workPlain_191 FX12_workPlain_206 FX12_workPlain_219 FX12_workPlain_222 FX12_workPlain_256 FX12_workPlain_259 FX12_set
  simp (decide := true) only [o, c1, c2, hs_get, ↓reduceIte, hs_hs]
theorem ins_13 (o : g 2 i.toNatClampNeg = 13) (c1 : ¬ FX12_isLock (FX12_local t (g 3 (Int32.toNatClampNeg i)) g) g = 0) (c2 : g 17 (g 11 (Int32.toNatClampNeg (FX12_local t (g 3 (Int32.toNatClampNeg i)) g))).toNatClampNeg = t) : FX12_instruct t i g = FX12_goTo t ((g 12 (Int32.toNatClampNeg t) + 1)) (hs (hs (hs (hs g 0 25 0) 17 (g 11 (Int32.toNatClampNeg (FX12_local t (g 3 (Int32.toNatClampNeg i)) g))).toNatClampNeg (-1)) 0 31 2) 0 32 (g 11 (Int32.toNatClampNeg (FX12_local t (g 3 (Int32.toNatClampNeg i)) g)))) := by
  unfold FX12_instruct FX12_instruct_98 FX12_instruct_102 FX12_instruct_144 FX12_instruct_148 FX12_instruct_149 FX12_instruct_177 FX12_instruct_195 FX12_instruct_204 FX12_instruct_251 FX12_why FX12_work FX12_workPlain FX12_why_99 FX12_why_169 FX12_why_196 FX12_why_266 FX12_work_88 FX12_work_111 FX12_work_134 FX12_work_152 FX12_work_155 FX12_work_212 FX12_workPlain_116 FX12_workPlain_153 FX12_workPlain_191 FX12_workPlain_206 FX12_workPlain_219 FX12_workPlain_222 FX12_workPlain_256 FX12_workPlain_259 FX12_set
  simp (decide := true) only [o, c1, c2, hs_get, ↓reduceIte, hs_hs]
theorem ins_14 (o : g 2 i.toNatClampNeg = 14) (c1 : g 10 (Int32.toNatClampNeg (FX12_local t (g 3 (Int32.toNatClampNeg i)) g)) = 3) (c2 : g 17 (g 11 (Int32.toNatClampNeg (FX12_local t (g 3 (Int32.toNatClampNeg i)) g))).toNatClampNeg = t) : FX12_instruct t i g = hs (hs (hs (hs (hs g 0 25 0) 17 (g 11 (Int32.toNatClampNeg (FX12_local t (g 3 (Int32.toNatClampNeg i)) g))).toNatClampNeg (-1)) 14 t.toNatClampNeg (g 11 (Int32.toNatClampNeg (FX12_local t (g 3 (Int32.toNatClampNeg i)) g)))) 0 31 2) 0 32 (g 11 (Int32.toNatClampNeg (FX12_local t (g 3 (Int32.toNatClampNeg i)) g))) := by
  unfold FX12_instruct FX12_instruct_98 FX12_instruct_102 FX12_instruct_144 FX12_instruct_148 FX12_instruct_149 FX12_instruct_177 FX12_instruct_195 FX12_instruct_204 FX12_instruct_251 FX12_why FX12_work FX12_workPlain FX12_why_99 FX12_why_169 FX12_why_196 FX12_why_266 FX12_work_88 FX12_work_111 FX12_work_134 FX12_work_152 FX12_work_155 FX12_work_212 FX12_workPlain_116 FX12_workPlain_153 FX12_workPlain_191 FX12_workPlain_206 FX12_workPlain_219 FX12_workPlain_222 FX12_workPlain_256 FX12_workPlain_259 FX12_set
  simp (decide := true) only [o, c1, c2, hs_get, ↓reduceIte, hs_hs]
theorem ins_16k (o : g 2 i.toNatClampNeg = 16) (c1 : ¬ g 0 33 = 0) : FX12_instruct t i g = FX12_goTo t ((g 12 (Int32.toNatClampNeg t) + 1)) (hs (hs (hs (hs g 0 25 0) 10 (Int32.toNatClampNeg (FX12_local t (g 3 (Int32.toNatClampNeg i)) g)) 0) 11 (Int32.toNatClampNeg (FX12_local t (g 3 (Int32.toNatClampNeg i)) g)) (g 36 (g 0 23).toNatClampNeg)) 0 23 (g 0 23 + 1)) := by
  unfold FX12_instruct FX12_instruct_98 FX12_instruct_102 FX12_instruct_144 FX12_instruct_148 FX12_instruct_149 FX12_instruct_177 FX12_instruct_195 FX12_instruct_204 FX12_instruct_251 FX12_why FX12_work FX12_workPlain FX12_why_99 FX12_why_169 FX12_why_196 FX12_why_266 FX12_work_88 FX12_work_111 FX12_work_134 FX12_work_152 FX12_work_155 FX12_work_212 FX12_workPlain_116 FX12_workPlain_153 FX12_workPlain_191 FX12_workPlain_206 FX12_workPlain_219 FX12_workPlain_222 FX12_workPlain_256 FX12_workPlain_259 FX12_set
  simp (decide := true) only [o, c1, hs_get, ↓reduceIte, hs_hs]
theorem ins_16u (o : g 2 i.toNatClampNeg = 16) (c1 : g 0 33 = 0) (c2 : ¬ g 0 23 = g 0 7) : FX12_instruct t i g = FX12_goTo t ((g 12 (Int32.toNatClampNeg t) + 1)) (hs (hs (hs (hs g 0 25 0) 10 (Int32.toNatClampNeg (FX12_local t (g 3 (Int32.toNatClampNeg i)) g)) 0) 11 (Int32.toNatClampNeg (FX12_local t (g 3 (Int32.toNatClampNeg i)) g)) (g 7 (g 0 23).toNatClampNeg)) 0 23 (g 0 23 + 1)) := by
  unfold FX12_instruct FX12_instruct_98 FX12_instruct_102 FX12_instruct_144 FX12_instruct_148 FX12_instruct_149 FX12_instruct_177 FX12_instruct_195 FX12_instruct_204 FX12_instruct_251 FX12_why FX12_work FX12_workPlain FX12_why_99 FX12_why_169 FX12_why_196 FX12_why_266 FX12_work_88 FX12_work_111 FX12_work_134 FX12_work_152 FX12_work_155 FX12_work_212 FX12_workPlain_116 FX12_workPlain_153 FX12_workPlain_191 FX12_workPlain_206 FX12_workPlain_219 FX12_workPlain_222 FX12_workPlain_256 FX12_workPlain_259 FX12_set
  simp (decide := true) only [o, c1, c2, hs_get, ↓reduceIte, hs_hs]
theorem ins_17 (o : g 2 i.toNatClampNeg = 17) (c1 : g 13 (FX12_modulo (g 3 i.toNatClampNeg) 4).toNatClampNeg = 0) : FX12_instruct t i g = FX12_goTo t ((g 12 (Int32.toNatClampNeg t) + 1)) (hs (hs (hs (hs g 0 25 0) 13 (FX12_modulo (g 3 i.toNatClampNeg) 4).toNatClampNeg 1) 0 31 4) 0 32 (FX12_modulo (g 3 i.toNatClampNeg) 4)) := by
  have e : vp_nar .boolean 1 = 1 := rfl
  unfold FX12_instruct FX12_instruct_98 FX12_instruct_102 FX12_instruct_144 FX12_instruct_148 FX12_instruct_149 FX12_instruct_177 FX12_instruct_195 FX12_instruct_204 FX12_instruct_251 FX12_why FX12_work FX12_workPlain FX12_why_99 FX12_why_169 FX12_why_196 FX12_why_266 FX12_work_88 FX12_work_111 FX12_work_134 FX12_work_152 FX12_work_155 FX12_work_212 FX12_workPlain_116 FX12_workPlain_153 FX12_workPlain_191 FX12_workPlain_206 FX12_workPlain_219 FX12_workPlain_222 FX12_workPlain_256 FX12_workPlain_259 FX12_set
  simp (decide := true) only [o, c1, hs_get, ↓reduceIte, hs_hs, e]
theorem ins_17f (o : g 2 i.toNatClampNeg = 17) (c1 : ¬ g 13 (FX12_modulo (g 3 i.toNatClampNeg) 4).toNatClampNeg = 0) : FX12_instruct t i g = hs g 0 25 5 := by
  unfold FX12_instruct FX12_instruct_98 FX12_instruct_102 FX12_instruct_144 FX12_instruct_148 FX12_instruct_149 FX12_instruct_177 FX12_instruct_195 FX12_instruct_204 FX12_instruct_251 FX12_why FX12_work FX12_workPlain FX12_why_99 FX12_why_169 FX12_why_196 FX12_why_266 FX12_work_88 FX12_work_111 FX12_work_134 FX12_work_152 FX12_work_155 FX12_work_212 FX12_workPlain_116 FX12_workPlain_153 FX12_workPlain_191 FX12_workPlain_206 FX12_workPlain_219 FX12_workPlain_222 FX12_workPlain_256 FX12_workPlain_259 FX12_set
  simp (decide := true) only [o, c1, hs_get, ↓reduceIte, hs_hs]
theorem ins_19 (o : g 2 i.toNatClampNeg = 19) : FX12_instruct t i g = FX12_goTo t 24 (hs g 0 25 0) := by
  unfold FX12_instruct FX12_instruct_98 FX12_instruct_102 FX12_instruct_144 FX12_instruct_148 FX12_instruct_149 FX12_instruct_177 FX12_instruct_195 FX12_instruct_204 FX12_instruct_251 FX12_why FX12_work FX12_workPlain FX12_why_99 FX12_why_169 FX12_why_196 FX12_why_266 FX12_work_88 FX12_work_111 FX12_work_134 FX12_work_152 FX12_work_155 FX12_work_212 FX12_workPlain_116 FX12_workPlain_153 FX12_workPlain_191 FX12_workPlain_206 FX12_workPlain_219 FX12_workPlain_222 FX12_workPlain_256 FX12_workPlain_259 FX12_set
  simp (decide := true) only [o, hs_get, ↓reduceIte, hs_hs]
theorem ins_8 (I : IM z g) (hl : (g 0 18).toInt < 12) (o : g 2 i.toNatClampNeg = 8) (c1 : g 10 (Int32.toNatClampNeg (FX12_local t (g 4 (Int32.toNatClampNeg i)) g)) = 0) (c2 : 0 ≤ g 11 (Int32.toNatClampNeg (FX12_local t (g 4 (Int32.toNatClampNeg i)) g))) (c3 : ¬ 16 < g 11 (Int32.toNatClampNeg (FX12_local t (g 4 (Int32.toNatClampNeg i)) g))) (c4 : ¬ g 0 18 = 12) : FX12_instruct t i g = FX12_goTo t ((g 12 (Int32.toNatClampNeg t) + 1)) (hs (hs (FX12_newThing 1 (g 11 (Int32.toNatClampNeg (FX12_local t (g 4 (Int32.toNatClampNeg i)) g))) (hs g 0 25 0)).2 10 (Int32.toNatClampNeg (FX12_local t (g 3 (Int32.toNatClampNeg i)) g)) 1) 11 (Int32.toNatClampNeg (FX12_local t (g 3 (Int32.toNatClampNeg i)) g)) (g 0 18)) := by
  have I1 : IM z (hs g 0 25 0) := IMs I (iv_any _) rfl
  have hl1 : (hs g 0 25 0 0 18).toInt < 12 := by rw [hs_o (by simp)]; exact hl
  have n1 := nt_1 (k := 1) (n := g 11 (Int32.toNatClampNeg (FX12_local t (g 4 (Int32.toNatClampNeg i)) g))) I1 hl1
  rw [hs_o (by simp)] at n1
  have n2 : ∀ j, (FX12_newThing 1 (g 11 (Int32.toNatClampNeg (FX12_local t (g 4 (Int32.toNatClampNeg i)) g))) (hs g 0 25 0)).2 2 j = g 2 j := fun j => by rw [nt_o I1 hl1 (by decide) (by decide) (by decide) (by decide) (by decide), hs_o (by simp)]
  have n12 : ∀ j, (FX12_newThing 1 (g 11 (Int32.toNatClampNeg (FX12_local t (g 4 (Int32.toNatClampNeg i)) g))) (hs g 0 25 0)).2 12 j = g 12 j := fun j => by rw [nt_o I1 hl1 (by decide) (by decide) (by decide) (by decide) (by decide), hs_o (by simp)]
  unfold FX12_instruct FX12_instruct_98 FX12_instruct_102 FX12_instruct_144 FX12_instruct_148 FX12_instruct_149 FX12_instruct_177 FX12_instruct_195 FX12_instruct_204 FX12_instruct_251 FX12_why FX12_work FX12_workPlain FX12_why_99 FX12_why_169 FX12_why_196 FX12_why_266 FX12_work_88 FX12_work_111 FX12_work_134 FX12_work_152 FX12_work_155 FX12_work_212 FX12_workPlain_116 FX12_workPlain_153 FX12_workPlain_191 FX12_workPlain_206 FX12_workPlain_219 FX12_workPlain_222 FX12_workPlain_256 FX12_workPlain_259 FX12_set
  simp (decide := true) only [o, c1, c2, c3, c4, hs_get, ↓reduceIte, hs_hs, n1, n2, n12]
theorem ins_11 {k : Int32} (I : IM z g) (hl : (g 0 18).toInt < 12) (o : g 2 i.toNatClampNeg = 11) (c4 : ¬ g 0 18 = 12) (hk : k = if (g 4 i.toNatClampNeg - g 4 i.toNatClampNeg / 2 * 2) = 0 then 2 else 3) : FX12_instruct t i g = FX12_goTo t ((g 12 (Int32.toNatClampNeg t) + 1)) (hs (hs (FX12_newThing k 0 (hs g 0 25 0)).2 10 (Int32.toNatClampNeg (FX12_local t (g 3 (Int32.toNatClampNeg i)) g)) k) 11 (Int32.toNatClampNeg (FX12_local t (g 3 (Int32.toNatClampNeg i)) g)) (g 0 18)) := by
  have I1 : IM z (hs g 0 25 0) := IMs I (iv_any _) rfl
  have hl1 : (hs g 0 25 0 0 18).toInt < 12 := by rw [hs_o (by simp)]; exact hl
  have n1 := nt_1 (k := k) (n := 0) I1 hl1
  rw [hs_o (by simp)] at n1
  have n2 : ∀ j, (FX12_newThing k 0 (hs g 0 25 0)).2 2 j = g 2 j := fun j => by rw [nt_o I1 hl1 (by decide) (by decide) (by decide) (by decide) (by decide), hs_o (by simp)]
  have n12 : ∀ j, (FX12_newThing k 0 (hs g 0 25 0)).2 12 j = g 12 j := fun j => by rw [nt_o I1 hl1 (by decide) (by decide) (by decide) (by decide) (by decide), hs_o (by simp)]
  unfold FX12_instruct FX12_instruct_98 FX12_instruct_102 FX12_instruct_144 FX12_instruct_148 FX12_instruct_149 FX12_instruct_177 FX12_instruct_195 FX12_instruct_204 FX12_instruct_251 FX12_why FX12_work FX12_workPlain FX12_why_99 FX12_why_169 FX12_why_196 FX12_why_266 FX12_work_88 FX12_work_111 FX12_work_134 FX12_work_152 FX12_work_155 FX12_work_212 FX12_workPlain_116 FX12_workPlain_153 FX12_workPlain_191 FX12_workPlain_206 FX12_workPlain_219 FX12_workPlain_222 FX12_workPlain_256 FX12_workPlain_259 FX12_set
  by_cases c : (g 4 i.toNatClampNeg - g 4 i.toNatClampNeg / 2 * 2) = 0
  · rw [if_pos c] at hk
    subst hk
    simp (decide := true) only [o, c, c4, hs_get, ↓reduceIte, hs_hs, n1, n2, n12]
  · rw [if_neg c] at hk
    subst hk
    simp (decide := true) only [o, c, c4, hs_get, ↓reduceIte, hs_hs, n1, n2, n12]
theorem w391_o : ∀ (q : Nat) (a x : Int32) (g : ph_H) (p j : Nat), ¬ p = 14 → ¬ p = 15 → FX12_work_391 q a x g p j = g p j
  | 0, _, _, _, _, _, _, _ => rfl
  | q + 1, a, x, g, p, j, n1, n2 => by
    unfold FX12_work_391 FX12_work_435
    split
    · rfl
    · split
      · rw [w391_o q _ _ _ _ _ n1 n2, hs_o (fun w => n1 w.1), hs_o (fun w => n2 w.1)]
      · rw [w391_o q _ _ _ _ _ n1 n2]
theorem ins_15 (o : g 2 i.toNatClampNeg = 15) (c1 : g 10 (Int32.toNatClampNeg (FX12_local t (g 3 (Int32.toNatClampNeg i)) g)) = 3) (c2 : g 17 (g 11 (Int32.toNatClampNeg (FX12_local t (g 3 (Int32.toNatClampNeg i)) g))).toNatClampNeg = t) : FX12_instruct t i g = FX12_goTo t ((g 12 (Int32.toNatClampNeg t) + 1)) (FX12_work_391 2000 (FX12_local t (g 3 (Int32.toNatClampNeg i)) g) 0 (hs (hs (hs g 0 25 0) 0 31 3) 0 32 (g 11 (Int32.toNatClampNeg (FX12_local t (g 3 (Int32.toNatClampNeg i)) g))))) := by
  have n2 : ∀ a q x (g : ph_H) j, FX12_work_391 q a x g 2 j = g 2 j := fun a q x g j => w391_o q a x g 2 j (by decide) (by decide)
  have n12 : ∀ a q x (g : ph_H) j, FX12_work_391 q a x g 12 j = g 12 j := fun a q x g j => w391_o q a x g 12 j (by decide) (by decide)
  unfold FX12_instruct FX12_instruct_98 FX12_instruct_102 FX12_instruct_144 FX12_instruct_148 FX12_instruct_149 FX12_instruct_177 FX12_instruct_195 FX12_instruct_204 FX12_instruct_251 FX12_why FX12_work FX12_workPlain FX12_why_99 FX12_why_169 FX12_why_196 FX12_why_266 FX12_work_88 FX12_work_111 FX12_work_134 FX12_work_152 FX12_work_155 FX12_work_212 FX12_workPlain_116 FX12_workPlain_153 FX12_workPlain_191 FX12_workPlain_206 FX12_workPlain_219 FX12_workPlain_222 FX12_workPlain_256 FX12_workPlain_259 FX12_set
  simp (decide := true) only [o, c1, c2, hs_get, ↓reduceIte, hs_hs, n2, n12]
/-- a FAILURE -/
theorem ins_f {w : Int32} (n17 : ¬ g 2 i.toNatClampNeg = 17) (e : FX12_why t (g 2 i.toNatClampNeg) (FX12_local t (g 3 (Int32.toNatClampNeg i)) g) (FX12_local t (g 4 (Int32.toNatClampNeg i)) g) (FX12_local t (g 5 (Int32.toNatClampNeg i)) g) (g 4 i.toNatClampNeg) g = w) (p : ¬ w ≤ 0) : FX12_instruct t i g = hs g 0 25 w := by
  unfold FX12_instruct FX12_instruct_98 FX12_instruct_102
  rw [e]
  simp (decide := true) only [n17, p, hs_get, ↓reduceIte, hs_hs]
end
end MG_48_x03A4
section MG_48_x04A5
/-! the class's own step: which INSTRUCTION does what -/
section
variable {h : ph_H} {t a b c : Int32}
theorem pf_0 (q0 : h 10 (FX5_firstPart_t t (h 18 t.toNatClampNeg) h).toNatClampNeg = 0) (q1 : h 10 ((FX5_firstPart_t t (h 18 t.toNatClampNeg) h) + 1).toNatClampNeg = a) (q2 : h 10 ((FX5_firstPart_t t (h 18 t.toNatClampNeg) h) + 2).toNatClampNeg = b) (q3 : h 10 ((FX5_firstPart_t t (h 18 t.toNatClampNeg) h) + 3).toNatClampNeg = c) : FX3_perform_s t h = FX3_hold_s (FX3_slotOf t a) 0 b h := by unfold FX3_perform_s; simp (decide := true) only [q0, q1, q2, q3, ↓reduceIte]
theorem pf_1 (q0 : h 10 (FX5_firstPart_t t (h 18 t.toNatClampNeg) h).toNatClampNeg = 1) (q1 : h 10 ((FX5_firstPart_t t (h 18 t.toNatClampNeg) h) + 1).toNatClampNeg = a) (q2 : h 10 ((FX5_firstPart_t t (h 18 t.toNatClampNeg) h) + 2).toNatClampNeg = b) (q3 : h 10 ((FX5_firstPart_t t (h 18 t.toNatClampNeg) h) + 3).toNatClampNeg = c) : FX3_perform_s t h = FX3_getCell_s (FX3_slotOf t a) (FJ9_floorMod_7cf53 b 12) h := by unfold FX3_perform_s; simp (decide := true) only [q0, q1, q2, q3, ↓reduceIte]
theorem pf_2 (q0 : h 10 (FX5_firstPart_t t (h 18 t.toNatClampNeg) h).toNatClampNeg = 2) (q1 : h 10 ((FX5_firstPart_t t (h 18 t.toNatClampNeg) h) + 1).toNatClampNeg = a) (q2 : h 10 ((FX5_firstPart_t t (h 18 t.toNatClampNeg) h) + 2).toNatClampNeg = b) (q3 : h 10 ((FX5_firstPart_t t (h 18 t.toNatClampNeg) h) + 3).toNatClampNeg = c) : FX3_perform_s t h = FX3_putCell_s (FJ9_floorMod_7cf53 a 12) (FX3_slotOf t b) h := by unfold FX3_perform_s; simp (decide := true) only [q0, q1, q2, q3, ↓reduceIte]
theorem pf_3 (q0 : h 10 (FX5_firstPart_t t (h 18 t.toNatClampNeg) h).toNatClampNeg = 3) (q1 : h 10 ((FX5_firstPart_t t (h 18 t.toNatClampNeg) h) + 1).toNatClampNeg = a) (q2 : h 10 ((FX5_firstPart_t t (h 18 t.toNatClampNeg) h) + 2).toNatClampNeg = b) (q3 : h 10 ((FX5_firstPart_t t (h 18 t.toNatClampNeg) h) + 3).toNatClampNeg = c) : FX3_perform_s t h = FX3_reckon_s 3 (FX3_slotOf t a) (FX3_slotOf t b) h := by unfold FX3_perform_s; simp (decide := true) only [q0, q1, q2, q3, ↓reduceIte]
theorem pf_4 (q0 : h 10 (FX5_firstPart_t t (h 18 t.toNatClampNeg) h).toNatClampNeg = 4) (q1 : h 10 ((FX5_firstPart_t t (h 18 t.toNatClampNeg) h) + 1).toNatClampNeg = a) (q2 : h 10 ((FX5_firstPart_t t (h 18 t.toNatClampNeg) h) + 2).toNatClampNeg = b) (q3 : h 10 ((FX5_firstPart_t t (h 18 t.toNatClampNeg) h) + 3).toNatClampNeg = c) : FX3_perform_s t h = FX3_reckon_s 4 (FX3_slotOf t a) (FX3_slotOf t b) h := by unfold FX3_perform_s; simp (decide := true) only [q0, q1, q2, q3, ↓reduceIte]
theorem pf_5 (q0 : h 10 (FX5_firstPart_t t (h 18 t.toNatClampNeg) h).toNatClampNeg = 5) (q1 : h 10 ((FX5_firstPart_t t (h 18 t.toNatClampNeg) h) + 1).toNatClampNeg = a) (q2 : h 10 ((FX5_firstPart_t t (h 18 t.toNatClampNeg) h) + 2).toNatClampNeg = b) (q3 : h 10 ((FX5_firstPart_t t (h 18 t.toNatClampNeg) h) + 3).toNatClampNeg = c) : FX3_perform_s t h = FX3_reckon_s 5 (FX3_slotOf t a) (FX3_slotOf t b) h := by unfold FX3_perform_s; simp (decide := true) only [q0, q1, q2, q3, ↓reduceIte]
theorem pf_6 (q0 : h 10 (FX5_firstPart_t t (h 18 t.toNatClampNeg) h).toNatClampNeg = 6) (q1 : h 10 ((FX5_firstPart_t t (h 18 t.toNatClampNeg) h) + 1).toNatClampNeg = a) (q2 : h 10 ((FX5_firstPart_t t (h 18 t.toNatClampNeg) h) + 2).toNatClampNeg = b) (q3 : h 10 ((FX5_firstPart_t t (h 18 t.toNatClampNeg) h) + 3).toNatClampNeg = c) : FX3_perform_s t h = FX3_goTo_s a h := by unfold FX3_perform_s; simp (decide := true) only [q0, q1, q2, q3, ↓reduceIte]
theorem pf_7 (q0 : h 10 (FX5_firstPart_t t (h 18 t.toNatClampNeg) h).toNatClampNeg = 7) (q1 : h 10 ((FX5_firstPart_t t (h 18 t.toNatClampNeg) h) + 1).toNatClampNeg = a) (q2 : h 10 ((FX5_firstPart_t t (h 18 t.toNatClampNeg) h) + 2).toNatClampNeg = b) (q3 : h 10 ((FX5_firstPart_t t (h 18 t.toNatClampNeg) h) + 3).toNatClampNeg = c) : FX3_perform_s t h = FX3_goUnless_s (FX3_slotOf t a) b h := by unfold FX3_perform_s; simp (decide := true) only [q0, q1, q2, q3, ↓reduceIte]
theorem pf_8 (q0 : h 10 (FX5_firstPart_t t (h 18 t.toNatClampNeg) h).toNatClampNeg = 8) (q1 : h 10 ((FX5_firstPart_t t (h 18 t.toNatClampNeg) h) + 1).toNatClampNeg = a) (q2 : h 10 ((FX5_firstPart_t t (h 18 t.toNatClampNeg) h) + 2).toNatClampNeg = b) (q3 : h 10 ((FX5_firstPart_t t (h 18 t.toNatClampNeg) h) + 3).toNatClampNeg = c) : FX3_perform_s t h = FX3_makeRow_s (FX3_slotOf t a) (FX3_slotOf t b) h := by unfold FX3_perform_s; simp (decide := true) only [q0, q1, q2, q3, ↓reduceIte]
theorem pf_9 (q0 : h 10 (FX5_firstPart_t t (h 18 t.toNatClampNeg) h).toNatClampNeg = 9) (q1 : h 10 ((FX5_firstPart_t t (h 18 t.toNatClampNeg) h) + 1).toNatClampNeg = a) (q2 : h 10 ((FX5_firstPart_t t (h 18 t.toNatClampNeg) h) + 2).toNatClampNeg = b) (q3 : h 10 ((FX5_firstPart_t t (h 18 t.toNatClampNeg) h) + 3).toNatClampNeg = c) : FX3_perform_s t h = FX3_readRow_s (FX3_slotOf t a) (FX3_slotOf t b) (FX3_slotOf t c) h := by unfold FX3_perform_s; simp (decide := true) only [q0, q1, q2, q3, ↓reduceIte]
theorem pf_10 (q0 : h 10 (FX5_firstPart_t t (h 18 t.toNatClampNeg) h).toNatClampNeg = 10) (q1 : h 10 ((FX5_firstPart_t t (h 18 t.toNatClampNeg) h) + 1).toNatClampNeg = a) (q2 : h 10 ((FX5_firstPart_t t (h 18 t.toNatClampNeg) h) + 2).toNatClampNeg = b) (q3 : h 10 ((FX5_firstPart_t t (h 18 t.toNatClampNeg) h) + 3).toNatClampNeg = c) : FX3_perform_s t h = FX3_writeRow_s (FX3_slotOf t a) (FX3_slotOf t b) (FX3_slotOf t c) h := by unfold FX3_perform_s; simp (decide := true) only [q0, q1, q2, q3, ↓reduceIte]
theorem pf_11 (q0 : h 10 (FX5_firstPart_t t (h 18 t.toNatClampNeg) h).toNatClampNeg = 11) (q1 : h 10 ((FX5_firstPart_t t (h 18 t.toNatClampNeg) h) + 1).toNatClampNeg = a) (q2 : h 10 ((FX5_firstPart_t t (h 18 t.toNatClampNeg) h) + 2).toNatClampNeg = b) (q3 : h 10 ((FX5_firstPart_t t (h 18 t.toNatClampNeg) h) + 3).toNatClampNeg = c) : FX3_perform_s t h = if (b &&& 1) = 0 then FX3_makeLock_s (FX3_slotOf t a) 0 h else FX3_makeLock_s (FX3_slotOf t a) 1 h := by
  unfold FX3_perform_s FX3_perform_s_288
  simp (decide := true) only [q0, q1, q2, q3, ↓reduceIte]
theorem pf_12 (q0 : h 10 (FX5_firstPart_t t (h 18 t.toNatClampNeg) h).toNatClampNeg = 12) (q1 : h 10 ((FX5_firstPart_t t (h 18 t.toNatClampNeg) h) + 1).toNatClampNeg = a) (q2 : h 10 ((FX5_firstPart_t t (h 18 t.toNatClampNeg) h) + 2).toNatClampNeg = b) (q3 : h 10 ((FX5_firstPart_t t (h 18 t.toNatClampNeg) h) + 3).toNatClampNeg = c) : FX3_perform_s t h = FX3_takeLock_s t (FX3_slotOf t a) h := by unfold FX3_perform_s; simp (decide := true) only [q0, q1, q2, q3, ↓reduceIte]
theorem pf_13 (q0 : h 10 (FX5_firstPart_t t (h 18 t.toNatClampNeg) h).toNatClampNeg = 13) (q1 : h 10 ((FX5_firstPart_t t (h 18 t.toNatClampNeg) h) + 1).toNatClampNeg = a) (q2 : h 10 ((FX5_firstPart_t t (h 18 t.toNatClampNeg) h) + 2).toNatClampNeg = b) (q3 : h 10 ((FX5_firstPart_t t (h 18 t.toNatClampNeg) h) + 3).toNatClampNeg = c) : FX3_perform_s t h = FX3_leaveLock_s t (FX3_slotOf t a) h := by unfold FX3_perform_s; simp (decide := true) only [q0, q1, q2, q3, ↓reduceIte]
theorem pf_14 (q0 : h 10 (FX5_firstPart_t t (h 18 t.toNatClampNeg) h).toNatClampNeg = 14) (q1 : h 10 ((FX5_firstPart_t t (h 18 t.toNatClampNeg) h) + 1).toNatClampNeg = a) (q2 : h 10 ((FX5_firstPart_t t (h 18 t.toNatClampNeg) h) + 2).toNatClampNeg = b) (q3 : h 10 ((FX5_firstPart_t t (h 18 t.toNatClampNeg) h) + 3).toNatClampNeg = c) : FX3_perform_s t h = FX3_lieDown_s t (FX3_slotOf t a) h := by unfold FX3_perform_s; simp (decide := true) only [q0, q1, q2, q3, ↓reduceIte]
theorem pf_15 (q0 : h 10 (FX5_firstPart_t t (h 18 t.toNatClampNeg) h).toNatClampNeg = 15) (q1 : h 10 ((FX5_firstPart_t t (h 18 t.toNatClampNeg) h) + 1).toNatClampNeg = a) (q2 : h 10 ((FX5_firstPart_t t (h 18 t.toNatClampNeg) h) + 2).toNatClampNeg = b) (q3 : h 10 ((FX5_firstPart_t t (h 18 t.toNatClampNeg) h) + 3).toNatClampNeg = c) : FX3_perform_s t h = FX3_wakeSleepers_s t (FX3_slotOf t a) h := by unfold FX3_perform_s; simp (decide := true) only [q0, q1, q2, q3, ↓reduceIte]
theorem pf_16 (q0 : h 10 (FX5_firstPart_t t (h 18 t.toNatClampNeg) h).toNatClampNeg = 16) (q1 : h 10 ((FX5_firstPart_t t (h 18 t.toNatClampNeg) h) + 1).toNatClampNeg = a) (q2 : h 10 ((FX5_firstPart_t t (h 18 t.toNatClampNeg) h) + 2).toNatClampNeg = b) (q3 : h 10 ((FX5_firstPart_t t (h 18 t.toNatClampNeg) h) + 3).toNatClampNeg = c) : FX3_perform_s t h = FX3_takeInput_s (FX3_slotOf t a) h := by unfold FX3_perform_s; simp (decide := true) only [q0, q1, q2, q3, ↓reduceIte]
theorem pf_17 (q0 : h 10 (FX5_firstPart_t t (h 18 t.toNatClampNeg) h).toNatClampNeg = 17) (q1 : h 10 ((FX5_firstPart_t t (h 18 t.toNatClampNeg) h) + 1).toNatClampNeg = a) (q2 : h 10 ((FX5_firstPart_t t (h 18 t.toNatClampNeg) h) + 2).toNatClampNeg = b) (q3 : h 10 ((FX5_firstPart_t t (h 18 t.toNatClampNeg) h) + 3).toNatClampNeg = c) : FX3_perform_s t h = FX3_startThread_s (FJ9_floorMod_7cf53 a 4) h := by unfold FX3_perform_s; simp (decide := true) only [q0, q1, q2, q3, ↓reduceIte]
theorem pf_18 (q0 : h 10 (FX5_firstPart_t t (h 18 t.toNatClampNeg) h).toNatClampNeg = 18) (q1 : h 10 ((FX5_firstPart_t t (h 18 t.toNatClampNeg) h) + 1).toNatClampNeg = a) (q2 : h 10 ((FX5_firstPart_t t (h 18 t.toNatClampNeg) h) + 2).toNatClampNeg = b) (q3 : h 10 ((FX5_firstPart_t t (h 18 t.toNatClampNeg) h) + 3).toNatClampNeg = c) : FX3_perform_s t h = (10 + FJ9_floorMod_7cf53 b 10, h) := by unfold FX3_perform_s; simp (decide := true) only [q0, q1, q2, q3, ↓reduceIte]
theorem pf_19 (q0 : h 10 (FX5_firstPart_t t (h 18 t.toNatClampNeg) h).toNatClampNeg = 19) (q1 : h 10 ((FX5_firstPart_t t (h 18 t.toNatClampNeg) h) + 1).toNatClampNeg = a) (q2 : h 10 ((FX5_firstPart_t t (h 18 t.toNatClampNeg) h) + 2).toNatClampNeg = b) (q3 : h 10 ((FX5_firstPart_t t (h 18 t.toNatClampNeg) h) + 3).toNatClampNeg = c) : FX3_perform_s t h = FX3_goTo_s 24 h := by unfold FX3_perform_s; simp (decide := true) only [q0, q1, q2, q3, ↓reduceIte]
end
/-! what a step did -/
def EF (h g : ph_H) : Prop := h 15 14 = g 0 29 ∧ h 15 15 = g 0 30 ∧ h 15 16 = g 0 31 ∧ (¬ g 0 31 = 0 → ¬ g 0 31 = 3 → h 15 17 = g 0 32)
def S0c (t : Int32) (h g : ph_H) : Prop := h 15 13 = h 18 t.toNatClampNeg + 1 ∧ h 15 14 = -2 ∧ h 15 15 = -2 ∧ h 15 16 = 0 ∧ g 0 29 = -2 ∧ g 0 30 = -2 ∧ g 0 31 = 0
def PLp (v : Int32) : Prop := v = -2 ∨ 0 ≤ v.toInt
def FL (G : ph_H) : Prop := 0 ≤ (G 0 25).toInt ∧ (¬ G 0 25 = 0 → G 0 29 = -2 ∧ G 0 30 = -2 ∧ G 0 31 = 0) ∧ PLp (G 0 29) ∧ PLp (G 0 30)
def SIM (t : Int32) (r : Int32 × ph_H) (G : ph_H) : Prop := (FX3_go_s_67 t r.1 r.2).1 = G 0 25 ∧ RC (FX3_go_s_67 t r.1 r.2).2 G ∧ EF (FX3_go_s_67 t r.1 r.2).2 G ∧ FL G
theorem fin_fail {t f : Int32} {h g : ph_H} (R : RC h g) (S : S0c t h g) (hf : ¬ f = 0) (hm : 0 ≤ f.toInt) : SIM t (f, h) (hs g 0 25 f) := by
  obtain ⟨s1, s2, s3, s4, s5, s6, s7⟩ := S
  unfold SIM FX3_go_s_67
  rw [if_neg hf]
  refine ⟨by rw [hs_self], R.rs rfl, ?_, ?_⟩
  · simp [EF, hs_get, s2, s3, s4, s5, s6, s7]
  · simp [FL, PLp, hs_get, s5, s6, s7, hm]
theorem fin_go {t a : Int32} {X G : ph_H} (R : RC X G) (E : EF X G) (h0 : G 0 25 = 0) (pl : PLp (G 0 29) ∧ PLp (G 0 30)) (e : X 15 13 = a) : SIM t (0, X) (FX12_goTo t a G) := by
  unfold SIM FX3_go_s_67
  subst e
  rw [goTo_eq, if_pos rfl]
  refine ⟨?_, R.at, ?_, ?_⟩
  · rw [hs_o (by simp)]
    exact h0.symm
  · simpa [EF, hs_get] using E
  · have k0 : (0 : Int32).toInt = 0 := by decide
    simp [FL, hs_get, h0, k0, pl]
theorem fin_stay {t : Int32} {X G : ph_H} (R : RC X G) (E : EF X G) (h0 : G 0 25 = 0) (pl : PLp (G 0 29) ∧ PLp (G 0 30)) (e : nrm (G 1 t.toNatClampNeg) (X 15 13) = G 12 t.toNatClampNeg) : SIM t (0, X) G := by
  have k := fin_go (t := t) R E h0 pl rfl
  rw [goTo_eq, e, hs_id] at k
  exact k
/-! each INSTRUCTION -/
theorem op_0 {z : zT} {h g : ph_H} {t : Int32} (R : RC h g) (I : IM z g) (ht : iv 0 3 t) (S : S0c t h g) (e18 : h 18 t.toNatClampNeg = g 12 t.toNatClampNeg) {i : Int32} (q0 : h 10 (FX5_firstPart_t t (h 18 t.toNatClampNeg) h).toNatClampNeg = g 2 i.toNatClampNeg) (q1 : h 10 ((FX5_firstPart_t t (h 18 t.toNatClampNeg) h) + 1).toNatClampNeg = g 3 i.toNatClampNeg) (q2 : h 10 ((FX5_firstPart_t t (h 18 t.toNatClampNeg) h) + 2).toNatClampNeg = g 4 i.toNatClampNeg) (q3 : h 10 ((FX5_firstPart_t t (h 18 t.toNatClampNeg) h) + 3).toNatClampNeg = g 5 i.toNatClampNeg) (o : g 2 i.toNatClampNeg = 0) : SIM t (FX3_perform_s t h) (FX12_instruct t i g) := by
  rw [pf_0 (q0.trans o) q1 q2 q3, ins_0 o, slot_eq t _ g]
  obtain ⟨s1, s2, s3, s4, s5, s6, s7⟩ := S
  refine fin_go ((R.rs rfl).slot (Or.inl rfl)) ?_ (by simp [hs_get]) (by simp [PLp, hs_get, s5, s6]) ?_
  · simp [EF, hs_get, s2, s3, s4, s5, s6, s7]
  · simp [hs_get, s1, e18]
theorem lv_slot {h g : ph_H} {k : Nat} (R : RC h g) (hk : k < 28) : g 10 k = 0 ∨ (0 ≤ (g 11 k).toInt ∧ (g 11 k).toInt < (g 0 18).toInt ∧ g 16 (g 11 k).toNatClampNeg = g 10 k) := R.2.2.2.2.2.2.1 k hk
theorem m12_lt (x : Int32) : (FX12_modulo x 12).toNatClampNeg < 28 := by
  have f : iv 0 11 (FX12_modulo x 12) := modulo_iv (m := 12) rfl
  have := iv_nat f rfl
  unfold iv at f
  omega
theorem op_1 {z : zT} {h g : ph_H} {t : Int32} (R : RC h g) (I : IM z g) (ht : iv 0 3 t) (S : S0c t h g) (e18 : h 18 t.toNatClampNeg = g 12 t.toNatClampNeg) {i : Int32} (q0 : h 10 (FX5_firstPart_t t (h 18 t.toNatClampNeg) h).toNatClampNeg = g 2 i.toNatClampNeg) (q1 : h 10 ((FX5_firstPart_t t (h 18 t.toNatClampNeg) h) + 1).toNatClampNeg = g 3 i.toNatClampNeg) (q2 : h 10 ((FX5_firstPart_t t (h 18 t.toNatClampNeg) h) + 2).toNatClampNeg = g 4 i.toNatClampNeg) (q3 : h 10 ((FX5_firstPart_t t (h 18 t.toNatClampNeg) h) + 3).toNatClampNeg = g 5 i.toNatClampNeg) (o : g 2 i.toNatClampNeg = 1) : SIM t (FX3_perform_s t h) (FX12_instruct t i g) := by
  rw [pf_1 (q0.trans o) q1 q2 q3, ins_1 o, slot_eq t _ g, fmo12]
  obtain ⟨s1, s2, s3, s4, s5, s6, s7⟩ := S
  unfold FX3_getCell_s FX3_hold_s
  obtain ⟨e1, e2⟩ := R.1 _ (m12_lt (g 4 i.toNatClampNeg))
  rw [e1, e2]
  refine fin_go (((R.cs (by decide)).rs rfl).rs rfl |>.slot ?_) ?_ (by simp [hs_get]) (by
    have pm : 0 ≤ (FX12_modulo (g 4 i.toNatClampNeg) 12).toInt := (modulo_iv (m := 12) (hi := 11) rfl).1
    simp [PLp, hs_get, s6, pm]) ?_
  · simpa [hs_get] using lv_slot R (m12_lt (g 4 i.toNatClampNeg))
  · simp [EF, hs_get, s2, s3, s4, s5, s6, s7]
  · simp [hs_get, s1, e18]
theorem op_2 {z : zT} {h g : ph_H} {t : Int32} (R : RC h g) (I : IM z g) (ht : iv 0 3 t) (S : S0c t h g) (e18 : h 18 t.toNatClampNeg = g 12 t.toNatClampNeg) {i : Int32} (q0 : h 10 (FX5_firstPart_t t (h 18 t.toNatClampNeg) h).toNatClampNeg = g 2 i.toNatClampNeg) (q1 : h 10 ((FX5_firstPart_t t (h 18 t.toNatClampNeg) h) + 1).toNatClampNeg = g 3 i.toNatClampNeg) (q2 : h 10 ((FX5_firstPart_t t (h 18 t.toNatClampNeg) h) + 2).toNatClampNeg = g 4 i.toNatClampNeg) (q3 : h 10 ((FX5_firstPart_t t (h 18 t.toNatClampNeg) h) + 3).toNatClampNeg = g 5 i.toNatClampNeg) (o : g 2 i.toNatClampNeg = 2) : SIM t (FX3_perform_s t h) (FX12_instruct t i g) := by
  rw [pf_2 (q0.trans o) q1 q2 q3, ins_2 o, slot_eq t _ g, fmo12]
  obtain ⟨s1, s2, s3, s4, s5, s6, s7⟩ := S
  unfold FX3_putCell_s FX3_hold_s
  obtain ⟨e1, e2⟩ := R.1 _ (sl_lt (a := g 4 i.toNatClampNeg) (g := g) ht)
  rw [e1, e2]
  refine fin_go (((R.cs (by decide)).rs rfl).rs rfl |>.slot ?_) ?_ (by simp [hs_get]) (by
    have pm : 0 ≤ (FX12_modulo (g 3 i.toNatClampNeg) 12).toInt := (modulo_iv (m := 12) (hi := 11) rfl).1
    simp [PLp, hs_get, s5, pm]) ?_
  · simpa [hs_get] using lv_slot R (sl_lt (a := g 4 i.toNatClampNeg) (g := g) ht)
  · simp [EF, hs_get, s2, s3, s4, s5, s6, s7]
  · simp [hs_get, s1, e18]
theorem why3 {o t a b c nb : Int32} {g : ph_H} (e : o = 3 ∨ o = 4 ∨ o = 5) (n : ¬ (g 10 a.toNatClampNeg = 0 ∧ g 10 b.toNatClampNeg = 0)) : FX12_why t o a b c nb g = 1 := by
  unfold FX12_why FX12_why_99
  by_cases c1 : g 10 a.toNatClampNeg = 0
  · have c2 : ¬ g 10 b.toNatClampNeg = 0 := fun w => n ⟨c1, w⟩
    rcases e with rfl | rfl | rfl <;> simp (decide := true) only [c1, c2, ↓reduceIte]
  · rcases e with rfl | rfl | rfl <;> simp (decide := true) only [c1, ↓reduceIte]
theorem op_3 {z : zT} {h g : ph_H} {t : Int32} (R : RC h g) (I : IM z g) (ht : iv 0 3 t) (S : S0c t h g) (e18 : h 18 t.toNatClampNeg = g 12 t.toNatClampNeg) {i : Int32} (q0 : h 10 (FX5_firstPart_t t (h 18 t.toNatClampNeg) h).toNatClampNeg = g 2 i.toNatClampNeg) (q1 : h 10 ((FX5_firstPart_t t (h 18 t.toNatClampNeg) h) + 1).toNatClampNeg = g 3 i.toNatClampNeg) (q2 : h 10 ((FX5_firstPart_t t (h 18 t.toNatClampNeg) h) + 2).toNatClampNeg = g 4 i.toNatClampNeg) (q3 : h 10 ((FX5_firstPart_t t (h 18 t.toNatClampNeg) h) + 3).toNatClampNeg = g 5 i.toNatClampNeg) (o : g 2 i.toNatClampNeg = 3) : SIM t (FX3_perform_s t h) (FX12_instruct t i g) := by
  rw [pf_3 (q0.trans o) q1 q2 q3, slot_eq t _ g, slot_eq t _ g]
  unfold FX3_reckon_s FX3_bothNumbers_s FX3_reckon_s_58 FX3_hold_s
  obtain ⟨a1, a2⟩ := R.1 _ (sl_lt (a := g 3 i.toNatClampNeg) (g := g) ht)
  obtain ⟨b1, b2⟩ := R.1 _ (sl_lt (a := g 4 i.toNatClampNeg) (g := g) ht)
  rw [a1, b1, a2, b2]
  by_cases n : g 10 (FX12_local t (g 3 i.toNatClampNeg) g).toNatClampNeg = 0 ∧ g 10 (FX12_local t (g 4 i.toNatClampNeg) g).toNatClampNeg = 0
  · rw [ins_3 o n.1 n.2]
    obtain ⟨s1, s2, s3, s4, s5, s6, s7⟩ := S
    simp (decide := true) only [n.1, n.2, ↓reduceIte]
    refine fin_go ((R.rs rfl).slot (Or.inl rfl)) ?_ (by simp [hs_get]) (by simp [PLp, hs_get, s5, s6]) ?_
    · simp [EF, hs_get, s2, s3, s4, s5, s6, s7]
    · simp [hs_get, s1, e18]
  · rw [ins_f (w := 1) (by rw [o]; decide) (by rw [o]; exact why3 (by simp) n) (by decide)]
    have : (if g 10 (FX12_local t (g 3 i.toNatClampNeg) g).toNatClampNeg = 0 then (if g 10 (FX12_local t (g 4 i.toNatClampNeg) g).toNatClampNeg = 0 then (1 : Int32) else 0) else 0) = 0 := by
      by_cases c1 : g 10 (FX12_local t (g 3 i.toNatClampNeg) g).toNatClampNeg = 0
      · rw [if_pos c1, if_neg (fun w => n ⟨c1, w⟩)]
      · rw [if_neg c1]
    rw [this, if_pos rfl]
    exact fin_fail R S (by decide) (by decide)
theorem op_4 {z : zT} {h g : ph_H} {t : Int32} (R : RC h g) (I : IM z g) (ht : iv 0 3 t) (S : S0c t h g) (e18 : h 18 t.toNatClampNeg = g 12 t.toNatClampNeg) {i : Int32} (q0 : h 10 (FX5_firstPart_t t (h 18 t.toNatClampNeg) h).toNatClampNeg = g 2 i.toNatClampNeg) (q1 : h 10 ((FX5_firstPart_t t (h 18 t.toNatClampNeg) h) + 1).toNatClampNeg = g 3 i.toNatClampNeg) (q2 : h 10 ((FX5_firstPart_t t (h 18 t.toNatClampNeg) h) + 2).toNatClampNeg = g 4 i.toNatClampNeg) (q3 : h 10 ((FX5_firstPart_t t (h 18 t.toNatClampNeg) h) + 3).toNatClampNeg = g 5 i.toNatClampNeg) (o : g 2 i.toNatClampNeg = 4) : SIM t (FX3_perform_s t h) (FX12_instruct t i g) := by
  rw [pf_4 (q0.trans o) q1 q2 q3, slot_eq t _ g, slot_eq t _ g]
  unfold FX3_reckon_s FX3_bothNumbers_s FX3_reckon_s_58 FX3_hold_s
  obtain ⟨a1, a2⟩ := R.1 _ (sl_lt (a := g 3 i.toNatClampNeg) (g := g) ht)
  obtain ⟨b1, b2⟩ := R.1 _ (sl_lt (a := g 4 i.toNatClampNeg) (g := g) ht)
  rw [a1, b1, a2, b2]
  by_cases n : g 10 (FX12_local t (g 3 i.toNatClampNeg) g).toNatClampNeg = 0 ∧ g 10 (FX12_local t (g 4 i.toNatClampNeg) g).toNatClampNeg = 0
  · rw [ins_4 o n.1 n.2]
    obtain ⟨s1, s2, s3, s4, s5, s6, s7⟩ := S
    simp (decide := true) only [n.1, n.2, ↓reduceIte]
    refine fin_go ((R.rs rfl).slot (Or.inl rfl)) ?_ (by simp [hs_get]) (by simp [PLp, hs_get, s5, s6]) ?_
    · simp [EF, hs_get, s2, s3, s4, s5, s6, s7]
    · simp [hs_get, s1, e18]
  · rw [ins_f (w := 1) (by rw [o]; decide) (by rw [o]; exact why3 (by simp) n) (by decide)]
    have : (if g 10 (FX12_local t (g 3 i.toNatClampNeg) g).toNatClampNeg = 0 then (if g 10 (FX12_local t (g 4 i.toNatClampNeg) g).toNatClampNeg = 0 then (1 : Int32) else 0) else 0) = 0 := by
      by_cases c1 : g 10 (FX12_local t (g 3 i.toNatClampNeg) g).toNatClampNeg = 0
      · rw [if_pos c1, if_neg (fun w => n ⟨c1, w⟩)]
      · rw [if_neg c1]
    rw [this, if_pos rfl]
    exact fin_fail R S (by decide) (by decide)
theorem op_5 {z : zT} {h g : ph_H} {t : Int32} (R : RC h g) (I : IM z g) (ht : iv 0 3 t) (S : S0c t h g) (e18 : h 18 t.toNatClampNeg = g 12 t.toNatClampNeg) {i : Int32} (q0 : h 10 (FX5_firstPart_t t (h 18 t.toNatClampNeg) h).toNatClampNeg = g 2 i.toNatClampNeg) (q1 : h 10 ((FX5_firstPart_t t (h 18 t.toNatClampNeg) h) + 1).toNatClampNeg = g 3 i.toNatClampNeg) (q2 : h 10 ((FX5_firstPart_t t (h 18 t.toNatClampNeg) h) + 2).toNatClampNeg = g 4 i.toNatClampNeg) (q3 : h 10 ((FX5_firstPart_t t (h 18 t.toNatClampNeg) h) + 3).toNatClampNeg = g 5 i.toNatClampNeg) (o : g 2 i.toNatClampNeg = 5) : SIM t (FX3_perform_s t h) (FX12_instruct t i g) := by
  rw [pf_5 (q0.trans o) q1 q2 q3, slot_eq t _ g, slot_eq t _ g]
  unfold FX3_reckon_s FX3_bothNumbers_s FX3_reckon_s_58 FX3_hold_s
  obtain ⟨a1, a2⟩ := R.1 _ (sl_lt (a := g 3 i.toNatClampNeg) (g := g) ht)
  obtain ⟨b1, b2⟩ := R.1 _ (sl_lt (a := g 4 i.toNatClampNeg) (g := g) ht)
  rw [a1, b1, a2, b2]
  by_cases n : g 10 (FX12_local t (g 3 i.toNatClampNeg) g).toNatClampNeg = 0 ∧ g 10 (FX12_local t (g 4 i.toNatClampNeg) g).toNatClampNeg = 0
  · rw [ins_5 o n.1 n.2]
    obtain ⟨s1, s2, s3, s4, s5, s6, s7⟩ := S
    simp (decide := true) only [n.1, n.2, ↓reduceIte]
    refine fin_go ((R.rs rfl).slot (Or.inl rfl)) ?_ (by simp [hs_get]) (by simp [PLp, hs_get, s5, s6]) ?_
    · simp [EF, hs_get, s2, s3, s4, s5, s6, s7]
    · simp [hs_get, s1, e18]
  · rw [ins_f (w := 1) (by rw [o]; decide) (by rw [o]; exact why3 (by simp) n) (by decide)]
    have : (if g 10 (FX12_local t (g 3 i.toNatClampNeg) g).toNatClampNeg = 0 then (if g 10 (FX12_local t (g 4 i.toNatClampNeg) g).toNatClampNeg = 0 then (1 : Int32) else 0) else 0) = 0 := by
      by_cases c1 : g 10 (FX12_local t (g 3 i.toNatClampNeg) g).toNatClampNeg = 0
      · rw [if_pos c1, if_neg (fun w => n ⟨c1, w⟩)]
      · rw [if_neg c1]
    rw [this, if_pos rfl]
    exact fin_fail R S (by decide) (by decide)
theorem op_6 {z : zT} {h g : ph_H} {t : Int32} (R : RC h g) (I : IM z g) (ht : iv 0 3 t) (S : S0c t h g) (e18 : h 18 t.toNatClampNeg = g 12 t.toNatClampNeg) {i : Int32} (q0 : h 10 (FX5_firstPart_t t (h 18 t.toNatClampNeg) h).toNatClampNeg = g 2 i.toNatClampNeg) (q1 : h 10 ((FX5_firstPart_t t (h 18 t.toNatClampNeg) h) + 1).toNatClampNeg = g 3 i.toNatClampNeg) (q2 : h 10 ((FX5_firstPart_t t (h 18 t.toNatClampNeg) h) + 2).toNatClampNeg = g 4 i.toNatClampNeg) (q3 : h 10 ((FX5_firstPart_t t (h 18 t.toNatClampNeg) h) + 3).toNatClampNeg = g 5 i.toNatClampNeg) (o : g 2 i.toNatClampNeg = 6) : SIM t (FX3_perform_s t h) (FX12_instruct t i g) := by
  rw [pf_6 (q0.trans o) q1 q2 q3, ins_6 o]
  obtain ⟨s1, s2, s3, s4, s5, s6, s7⟩ := S
  unfold FX3_goTo_s
  refine fin_go ((R.cs (by decide)).rs rfl) ?_ (by simp [hs_get]) (by simp [PLp, hs_get, s5, s6]) ?_
  · simp [EF, hs_get, s2, s3, s4, s5, s6, s7]
  · simp [hs_get]
theorem op_7 {z : zT} {h g : ph_H} {t : Int32} (R : RC h g) (I : IM z g) (ht : iv 0 3 t) (S : S0c t h g) (e18 : h 18 t.toNatClampNeg = g 12 t.toNatClampNeg) {i : Int32} (q0 : h 10 (FX5_firstPart_t t (h 18 t.toNatClampNeg) h).toNatClampNeg = g 2 i.toNatClampNeg) (q1 : h 10 ((FX5_firstPart_t t (h 18 t.toNatClampNeg) h) + 1).toNatClampNeg = g 3 i.toNatClampNeg) (q2 : h 10 ((FX5_firstPart_t t (h 18 t.toNatClampNeg) h) + 2).toNatClampNeg = g 4 i.toNatClampNeg) (q3 : h 10 ((FX5_firstPart_t t (h 18 t.toNatClampNeg) h) + 3).toNatClampNeg = g 5 i.toNatClampNeg) (o : g 2 i.toNatClampNeg = 7) : SIM t (FX3_perform_s t h) (FX12_instruct t i g) := by
  rw [pf_7 (q0.trans o) q1 q2 q3, slot_eq t _ g]
  unfold FX3_goUnless_s FX3_goUnless_s_25 FX3_goTo_s
  obtain ⟨a1, a2⟩ := R.1 _ (sl_lt (a := g 3 i.toNatClampNeg) (g := g) ht)
  rw [a1, a2]
  by_cases c1 : g 10 (FX12_local t (g 3 i.toNatClampNeg) g).toNatClampNeg = 0
  · rw [if_pos c1]
    by_cases c2 : g 11 (FX12_local t (g 3 i.toNatClampNeg) g).toNatClampNeg = 0
    · rw [if_pos c2, ins_7j o c1 c2]
      obtain ⟨s1, s2, s3, s4, s5, s6, s7⟩ := S
      refine fin_go ((R.cs (by decide)).rs rfl) ?_ (by simp [hs_get]) (by simp [PLp, hs_get, s5, s6]) ?_
      · simp [EF, hs_get, s2, s3, s4, s5, s6, s7]
      · simp [hs_get]
    · rw [if_neg c2, ins_7n o c1 c2]
      obtain ⟨s1, s2, s3, s4, s5, s6, s7⟩ := S
      refine fin_go (R.rs rfl) ?_ (by simp [hs_get]) (by simp [PLp, hs_get, s5, s6]) ?_
      · simp [EF, hs_get, s2, s3, s4, s5, s6, s7]
      · simp [hs_get, s1, e18]
  · rw [if_neg c1, ins_f (w := 1) (by rw [o]; decide) (by rw [o]; unfold FX12_why; simp (decide := true) only [c1, ↓reduceIte]) (by decide)]
    exact fin_fail R S (by decide) (by decide)
theorem op_18 {z : zT} {h g : ph_H} {t : Int32} (R : RC h g) (I : IM z g) (ht : iv 0 3 t) (S : S0c t h g) (e18 : h 18 t.toNatClampNeg = g 12 t.toNatClampNeg) {i : Int32} (q0 : h 10 (FX5_firstPart_t t (h 18 t.toNatClampNeg) h).toNatClampNeg = g 2 i.toNatClampNeg) (q1 : h 10 ((FX5_firstPart_t t (h 18 t.toNatClampNeg) h) + 1).toNatClampNeg = g 3 i.toNatClampNeg) (q2 : h 10 ((FX5_firstPart_t t (h 18 t.toNatClampNeg) h) + 2).toNatClampNeg = g 4 i.toNatClampNeg) (q3 : h 10 ((FX5_firstPart_t t (h 18 t.toNatClampNeg) h) + 3).toNatClampNeg = g 5 i.toNatClampNeg) (o : g 2 i.toNatClampNeg = 18) : SIM t (FX3_perform_s t h) (FX12_instruct t i g) := by
  rw [pf_18 (q0.trans o) q1 q2 q3, fmo10]
  have f : iv 0 9 (FX12_modulo (g 4 i.toNatClampNeg) 10) := modulo_iv (m := 10) rfl
  have f2 : iv 10 19 (10 + FX12_modulo (g 4 i.toNatClampNeg) 10) := iv_add (a := 10) (b := 10) (iv_lit rfl) f rfl
  rw [ins_f (w := 10 + FX12_modulo (g 4 i.toNatClampNeg) 10) (by rw [o]; decide) (by rw [o]; unfold FX12_why; simp (decide := true) only [↓reduceIte]) (fun w => by
    rw [Int32.le_iff_toInt_le] at w
    have h0 : (0 : Int32).toInt = 0 := by decide
    unfold iv at f2
    omega)]
  exact fin_fail R S (iv_ne0 f2 rfl) (by
    unfold iv at f2
    omega)
theorem op_19 {z : zT} {h g : ph_H} {t : Int32} (R : RC h g) (I : IM z g) (ht : iv 0 3 t) (S : S0c t h g) (e18 : h 18 t.toNatClampNeg = g 12 t.toNatClampNeg) {i : Int32} (q0 : h 10 (FX5_firstPart_t t (h 18 t.toNatClampNeg) h).toNatClampNeg = g 2 i.toNatClampNeg) (q1 : h 10 ((FX5_firstPart_t t (h 18 t.toNatClampNeg) h) + 1).toNatClampNeg = g 3 i.toNatClampNeg) (q2 : h 10 ((FX5_firstPart_t t (h 18 t.toNatClampNeg) h) + 2).toNatClampNeg = g 4 i.toNatClampNeg) (q3 : h 10 ((FX5_firstPart_t t (h 18 t.toNatClampNeg) h) + 3).toNatClampNeg = g 5 i.toNatClampNeg) (o : g 2 i.toNatClampNeg = 19) : SIM t (FX3_perform_s t h) (FX12_instruct t i g) := by
  rw [pf_19 (q0.trans o) q1 q2 q3, ins_19 o]
  obtain ⟨s1, s2, s3, s4, s5, s6, s7⟩ := S
  unfold FX3_goTo_s
  refine fin_go ((R.cs (by decide)).rs rfl) ?_ (by simp [hs_get]) (by simp [PLp, hs_get, s5, s6]) ?_
  · simp [EF, hs_get, s2, s3, s4, s5, s6, s7]
  · simp [hs_get]
end MG_48_x04A5
section MG_48_x05A6
theorem gate_eq {h g : ph_H} {k : Int32} (R : RC h g) (hk : k.toNatClampNeg < 28) : FX3_gateIn_s k h = if g 10 k.toNatClampNeg = 3 then g 11 k.toNatClampNeg else -1 := by
  obtain ⟨e1, e2⟩ := R.1 _ hk
  unfold FX3_gateIn_s
  rw [e1, e2]
theorem le_n1 : ¬ (0 : Int32) ≤ -1 := by decide
theorem op_12 {z : zT} {h g : ph_H} {t : Int32} (R : RC h g) (I : IM z g) (ht : iv 0 3 t) (S : S0c t h g) (e18 : h 18 t.toNatClampNeg = g 12 t.toNatClampNeg) {i : Int32} (q0 : h 10 (FX5_firstPart_t t (h 18 t.toNatClampNeg) h).toNatClampNeg = g 2 i.toNatClampNeg) (q1 : h 10 ((FX5_firstPart_t t (h 18 t.toNatClampNeg) h) + 1).toNatClampNeg = g 3 i.toNatClampNeg) (q2 : h 10 ((FX5_firstPart_t t (h 18 t.toNatClampNeg) h) + 2).toNatClampNeg = g 4 i.toNatClampNeg) (q3 : h 10 ((FX5_firstPart_t t (h 18 t.toNatClampNeg) h) + 3).toNatClampNeg = g 5 i.toNatClampNeg) (o : g 2 i.toNatClampNeg = 12) : SIM t (FX3_perform_s t h) (FX12_instruct t i g) := by
  rw [pf_12 (q0.trans o) q1 q2 q3, slot_eq t _ g]
  unfold FX3_takeLock_s FX3_own_s
  rw [lock_eq R (sl_lt ht)]
  by_cases l : FX12_isLock (FX12_local t (g 3 i.toNatClampNeg) g) g = 0
  · rw [ins_f (w := 1) (by rw [o]; decide) (by rw [o]; unfold FX12_why; simp (decide := true) only [l, ↓reduceIte]) (by decide)]
    simp (decide := true) only [l, le_n1, ↓reduceIte]
    exact fin_fail R S (by decide) (by decide)
  · have l0 := isLock_t l
    have lo := own_at R (sl_lt ht) l0
    obtain ⟨a, b, c⟩ := refs R (sl_lt ht) l0
    have nn := nn_le (x := g 11 (FX12_local t (g 3 i.toNatClampNeg) g).toNatClampNeg) (by omega)
    simp (decide := true) only [l, nn, ↓reduceIte]
    by_cases u : g 17 (g 11 (FX12_local t (g 3 i.toNatClampNeg) g).toNatClampNeg).toNatClampNeg = t
    · rw [ins_f (w := 5) (by rw [o]; decide) (by rw [o]; unfold FX12_why; simp (decide := true) only [l, u, ↓reduceIte]) (by decide), if_pos ((OW_own lo ht).mpr u)]
      exact fin_fail R S (by decide) (by decide)
    · rw [if_neg (fun w => u ((OW_own lo ht).mp w)), ins_12 o l u]
      obtain ⟨s1, s2, s3, s4, s5, s6, s7⟩ := S
      refine fin_go (((((R.rs rfl).own (Or.inr ⟨rfl, ht⟩)).cs (by decide)).cs (by decide)).rs rfl |>.rs rfl) ?_ (by simp [hs_get]) (by simp [PLp, hs_get, s5, s6]) ?_
      · simp [EF, hs_get, s2, s3, s4, s5, s6, s7]
      · simp [hs_get, s1, e18]
theorem op_13 {z : zT} {h g : ph_H} {t : Int32} (R : RC h g) (I : IM z g) (ht : iv 0 3 t) (S : S0c t h g) (e18 : h 18 t.toNatClampNeg = g 12 t.toNatClampNeg) {i : Int32} (q0 : h 10 (FX5_firstPart_t t (h 18 t.toNatClampNeg) h).toNatClampNeg = g 2 i.toNatClampNeg) (q1 : h 10 ((FX5_firstPart_t t (h 18 t.toNatClampNeg) h) + 1).toNatClampNeg = g 3 i.toNatClampNeg) (q2 : h 10 ((FX5_firstPart_t t (h 18 t.toNatClampNeg) h) + 2).toNatClampNeg = g 4 i.toNatClampNeg) (q3 : h 10 ((FX5_firstPart_t t (h 18 t.toNatClampNeg) h) + 3).toNatClampNeg = g 5 i.toNatClampNeg) (o : g 2 i.toNatClampNeg = 13) : SIM t (FX3_perform_s t h) (FX12_instruct t i g) := by
  rw [pf_13 (q0.trans o) q1 q2 q3, slot_eq t _ g]
  unfold FX3_leaveLock_s FX3_free_s
  rw [lock_eq R (sl_lt ht)]
  by_cases l : FX12_isLock (FX12_local t (g 3 i.toNatClampNeg) g) g = 0
  · rw [ins_f (w := 1) (by rw [o]; decide) (by rw [o]; unfold FX12_why; simp (decide := true) only [l, ↓reduceIte]) (by decide)]
    simp (decide := true) only [l, le_n1, ↓reduceIte]
    exact fin_fail R S (by decide) (by decide)
  · have l0 := isLock_t l
    have lo := own_at R (sl_lt ht) l0
    obtain ⟨a, b, c⟩ := refs R (sl_lt ht) l0
    have nn := nn_le (x := g 11 (FX12_local t (g 3 i.toNatClampNeg) g).toNatClampNeg) (by omega)
    simp (decide := true) only [l, nn, ↓reduceIte]
    by_cases u : g 17 (g 11 (FX12_local t (g 3 i.toNatClampNeg) g).toNatClampNeg).toNatClampNeg = t
    · rw [if_pos ((OW_own lo ht).mpr u), ins_13 o l u]
      obtain ⟨s1, s2, s3, s4, s5, s6, s7⟩ := S
      refine fin_go (((((R.rs rfl).own (Or.inl ⟨rfl, rfl⟩)).cs (by decide)).cs (by decide)).rs rfl |>.rs rfl) ?_ (by simp [hs_get]) (by simp [PLp, hs_get, s5, s6]) ?_
      · simp [EF, hs_get, s2, s3, s4, s5, s6, s7]
      · simp [hs_get, s1, e18]
    · rw [ins_f (w := 6) (by rw [o]; decide) (by rw [o]; unfold FX12_why; simp (decide := true) only [l, u, ↓reduceIte]) (by decide), if_neg (fun w => u ((OW_own lo ht).mp w))]
      exact fin_fail R S (by decide) (by decide)
theorem op_14 {z : zT} {h g : ph_H} {t : Int32} (R : RC h g) (I : IM z g) (ht : iv 0 3 t) (S : S0c t h g) (e18 : h 18 t.toNatClampNeg = g 12 t.toNatClampNeg) (m1 : h 19 t.toNatClampNeg = 1) {i : Int32} (q0 : h 10 (FX5_firstPart_t t (h 18 t.toNatClampNeg) h).toNatClampNeg = g 2 i.toNatClampNeg) (q1 : h 10 ((FX5_firstPart_t t (h 18 t.toNatClampNeg) h) + 1).toNatClampNeg = g 3 i.toNatClampNeg) (q2 : h 10 ((FX5_firstPart_t t (h 18 t.toNatClampNeg) h) + 2).toNatClampNeg = g 4 i.toNatClampNeg) (q3 : h 10 ((FX5_firstPart_t t (h 18 t.toNatClampNeg) h) + 3).toNatClampNeg = g 5 i.toNatClampNeg) (o : g 2 i.toNatClampNeg = 14) : SIM t (FX3_perform_s t h) (FX12_instruct t i g) := by
  rw [pf_14 (q0.trans o) q1 q2 q3, slot_eq t _ g]
  unfold FX3_lieDown_s FX3_free_s
  rw [gate_eq R (sl_lt ht)]
  by_cases l : g 10 (FX12_local t (g 3 i.toNatClampNeg) g).toNatClampNeg = 3
  · have l0 : ¬ g 10 (FX12_local t (g 3 i.toNatClampNeg) g).toNatClampNeg = 0 := fun w => absurd (w.symm.trans l) (by decide)
    have lo := own_at R (sl_lt ht) l0
    obtain ⟨a, b, c⟩ := refs R (sl_lt ht) l0
    have nn := nn_le (x := g 11 (FX12_local t (g 3 i.toNatClampNeg) g).toNatClampNeg) (by omega)
    have tn := th_nn I
    simp (decide := true) only [l, nn, ↓reduceIte]
    by_cases u : g 17 (g 11 (FX12_local t (g 3 i.toNatClampNeg) g).toNatClampNeg).toNatClampNeg = t
    · rw [if_pos ((OW_own lo ht).mpr u), ins_14 o l u]
      have s1 := S.1
      obtain ⟨s1, s2, s3, s4, s5, s6, s7⟩ := S
      have R1 := (R.rs (i := 25) (v := 0) rfl).lie (z := z) (q := g 11 (FX12_local t (g 3 i.toNatClampNeg) g).toNatClampNeg) (IMs I (iv_any _) rfl) (t_lt ht) m1 ⟨by omega, by omega⟩ (by rw [hs_o (by simp)]; omega)
      have R2 := (R1.cs (i := 13) (v := h 18 t.toNatClampNeg) (by decide)).own (x := (g 11 (FX12_local t (g 3 i.toNatClampNeg) g).toNatClampNeg).toNatClampNeg) (c := -2) (r := -1) (Or.inl ⟨rfl, rfl⟩)
      have R3 := (((R2.cs (i := 16) (v := 2) (by decide)).cs (i := 17) (v := g 11 (FX12_local t (g 3 i.toNatClampNeg) g).toNatClampNeg) (by decide)).rs (i := 31) (v := 2) rfl).rs (i := 32) (v := g 11 (FX12_local t (g 3 i.toNatClampNeg) g).toNatClampNeg) rfl
      rw [hs_comm _ 14 _ _ 17 _ _ (Or.inl (by decide))] at R3
      refine fin_stay R3 ?_ (by simp [hs_get]) (by simp [PLp, hs_get, s5, s6]) ?_
      · simp [EF, hs_get, s2, s3, s4, s5, s6, s7]
      · have := R.2.1 _ (t_lt ht)
        simpa [hs_get] using this
    · rw [ins_f (w := 6) (by rw [o]; decide) (by rw [o]; unfold FX12_why; simp (decide := true) only [l, u, ↓reduceIte]) (by decide), if_neg (fun w => u ((OW_own lo ht).mp w))]
      exact fin_fail R S (by decide) (by decide)
  · rw [ins_f (w := 1) (by rw [o]; decide) (by rw [o]; unfold FX12_why; simp (decide := true) only [l, ↓reduceIte]) (by decide)]
    simp (decide := true) only [l, le_n1, ↓reduceIte]
    exact fin_fail R S (by decide) (by decide)
theorem op_16 {z : zT} {h g : ph_H} {t : Int32} (R : RC h g) (I : IM z g) (ht : iv 0 3 t) (S : S0c t h g) (e18 : h 18 t.toNatClampNeg = g 12 t.toNatClampNeg) (kk : ¬ g 0 33 = 0 → ¬ g 0 23 = g 0 34) {i : Int32} (q0 : h 10 (FX5_firstPart_t t (h 18 t.toNatClampNeg) h).toNatClampNeg = g 2 i.toNatClampNeg) (q1 : h 10 ((FX5_firstPart_t t (h 18 t.toNatClampNeg) h) + 1).toNatClampNeg = g 3 i.toNatClampNeg) (q2 : h 10 ((FX5_firstPart_t t (h 18 t.toNatClampNeg) h) + 2).toNatClampNeg = g 4 i.toNatClampNeg) (q3 : h 10 ((FX5_firstPart_t t (h 18 t.toNatClampNeg) h) + 3).toNatClampNeg = g 5 i.toNatClampNeg) (o : g 2 i.toNatClampNeg = 16) : SIM t (FX3_perform_s t h) (FX12_instruct t i g) := by
  rw [pf_16 (q0.trans o) q1 q2 q3, slot_eq t _ g]
  unfold FX3_takeInput_s FX3_hold_s
  obtain ⟨i1, i2, i3, i4⟩ := R.2.2.2.2.1
  rw [i1, i2]
  have t30 : iv 0 30 (g 0 23) := IMv I 0 23
  have t7 : iv 0 30 (g 0 7) := IMv I 0 7
  have t34 : iv 0 30 (g 0 34) := IMv I 0 34
  have k1 : (1 : Int32).toInt = 1 := by decide
  have k30 : (30 : Int32).toInt = 30 := by decide
  have tn := iv_nat t30 rfl
  unfold iv at t30 t7 t34
  have e1 : g 0 23 + 1 - 1 = g 0 23 := tI (by rw [ti_sub, ti_add] <;> (try rw [ti_add]) <;> omega)
  have e2 : (g 0 23 + 1).toInt = (g 0 23).toInt + 1 := by rw [ti_add (by omega) (by omega), k1]
  have kb : (kn g).toInt ≤ 30 := by unfold kn; split <;> omega
  rw [e1]
  by_cases f : kn g ≤ g 0 23
  · rw [if_pos f]
    rw [Int32.le_iff_toInt_le] at f
    have eq : g 0 23 = kn g := tI (by omega)
    by_cases c : g 0 33 = 0
    · have : g 0 23 = g 0 7 := by rw [eq]; unfold kn; rw [if_pos c]
      rw [ins_f (w := 7) (by rw [o]; decide) (by rw [o]; unfold FX12_why; simp (decide := true) only [c, this, ↓reduceIte]) (by decide)]
      exact fin_fail R S (by decide) (by decide)
    · exact absurd (by rw [eq]; unfold kn; rw [if_neg c]) (kk c)
  · rw [if_neg f]
    rw [Int32.le_iff_toInt_le] at f
    have lt : g 0 23 < 30 := by rw [Int32.lt_iff_toInt_lt, k30]; omega
    rw [if_pos lt, i4 _ (by omega)]
    obtain ⟨s1, s2, s3, s4, s5, s6, s7⟩ := S
    by_cases c : g 0 33 = 0
    · have n7 : ¬ g 0 23 = g 0 7 := fun w => f (by unfold kn; rw [if_pos c, w]; omega)
      rw [ins_16u o c n7]
      unfold vi
      rw [if_pos c]
      have R1 := ((R.rs (i := 25) (v := 0) rfl).take (v := g 0 23 + 1) (by
        have : kn (hs g 0 25 0) = kn g := by unfold kn; simp [hs_get]
        rw [this]; omega)).slot (k := (FX12_local t (g 3 i.toNatClampNeg) g).toNatClampNeg) (kd := 0) (v := g 7 (g 0 23).toNatClampNeg) (Or.inl rfl)
      rw [hs_comm _ 0 23 _ 10 _ _ (Or.inl (by decide)), hs_comm _ 0 23 _ 11 _ _ (Or.inl (by decide))] at R1
      refine fin_go R1 ?_ (by simp [hs_get]) (by simp [PLp, hs_get, s5, s6]) ?_
      · simp [EF, hs_get, s2, s3, s4, s5, s6, s7]
      · simp [hs_get, s1, e18]
    · rw [ins_16k o c]
      unfold vi
      rw [if_neg c]
      have R1 := ((R.rs (i := 25) (v := 0) rfl).take (v := g 0 23 + 1) (by
        have : kn (hs g 0 25 0) = kn g := by unfold kn; simp [hs_get]
        rw [this]; omega)).slot (k := (FX12_local t (g 3 i.toNatClampNeg) g).toNatClampNeg) (kd := 0) (v := g 36 (g 0 23).toNatClampNeg) (Or.inl rfl)
      rw [hs_comm _ 0 23 _ 10 _ _ (Or.inl (by decide)), hs_comm _ 0 23 _ 11 _ _ (Or.inl (by decide))] at R1
      refine fin_go R1 ?_ (by simp [hs_get]) (by simp [PLp, hs_get, s5, s6]) ?_
      · simp [EF, hs_get, s2, s3, s4, s5, s6, s7]
      · simp [hs_get, s1, e18]
theorem m4_lt (x : Int32) : (FX12_modulo x 4).toNatClampNeg < 4 := by
  have f : iv 0 3 (FX12_modulo x 4) := modulo_iv (m := 4) rfl
  have := iv_nat f rfl
  unfold iv at f
  omega
theorem op_17 {z : zT} {h g : ph_H} {t : Int32} (R : RC h g) (I : IM z g) (ht : iv 0 3 t) (S : S0c t h g) (e18 : h 18 t.toNatClampNeg = g 12 t.toNatClampNeg) {i : Int32} (q0 : h 10 (FX5_firstPart_t t (h 18 t.toNatClampNeg) h).toNatClampNeg = g 2 i.toNatClampNeg) (q1 : h 10 ((FX5_firstPart_t t (h 18 t.toNatClampNeg) h) + 1).toNatClampNeg = g 3 i.toNatClampNeg) (q2 : h 10 ((FX5_firstPart_t t (h 18 t.toNatClampNeg) h) + 2).toNatClampNeg = g 4 i.toNatClampNeg) (q3 : h 10 ((FX5_firstPart_t t (h 18 t.toNatClampNeg) h) + 3).toNatClampNeg = g 5 i.toNatClampNeg) (o : g 2 i.toNatClampNeg = 17) : SIM t (FX3_perform_s t h) (FX12_instruct t i g) := by
  rw [pf_17 (q0.trans o) q1 q2 q3, fmo4]
  unfold FX3_startThread_s
  by_cases c : h 19 (FX12_modulo (g 3 i.toNatClampNeg) 4).toNatClampNeg = 0
  · have m := MD0 (R.2.2.1 _ (m4_lt (g 3 i.toNatClampNeg))) c
    rw [if_pos c, ins_17 o m.1]
    obtain ⟨s1, s2, s3, s4, s5, s6, s7⟩ := S
    have R1 := ((((R.rs (i := 25) (v := 0) rfl).start (z := z) (IMs I (iv_any _) rfl) (m4_lt (g 3 i.toNatClampNeg)) c).cs (i := 16) (v := 4) (by decide)).cs (i := 17) (v := FX12_modulo (g 3 i.toNatClampNeg) 4) (by decide)).rs (i := 31) (v := 4) rfl |>.rs (i := 32) (v := FX12_modulo (g 3 i.toNatClampNeg) 4) rfl
    refine fin_go R1 ?_ (by simp [hs_get]) (by simp [PLp, hs_get, s5, s6]) ?_
    · simp [EF, hs_get, s2, s3, s4, s5, s6, s7]
    · simp [hs_get, s1, e18]
  · rw [if_neg c, ins_17f o (by
      rcases R.2.2.1 _ (m4_lt (g 3 i.toNatClampNeg)) with ⟨a, b⟩ | ⟨a, b, _⟩ | ⟨a, b, _⟩ | ⟨a, b, _⟩
      · exact absurd a c
      all_goals rw [b]; decide)]
    exact fin_fail R S (by decide) (by decide)
end MG_48_x05A6
section MG_48_x06A7
/-! places of rows -/
theorem rp_ix {x i : Int32} (hx : iv 0 11 x) (hi : iv 0 15 i) : ((16 * x) + i).toNatClampNeg = 16 * x.toNatClampNeg + i.toNatClampNeg := by
  have k16 : (16 : Int32).toInt = 16 := by decide
  have n1 := iv_nat hx rfl
  have n2 := iv_nat hi rfl
  unfold iv at hx hi
  have em : (16 * x).toInt = 16 * x.toInt := by rw [ti_mul (by rw [k16]; omega) (by rw [k16]; omega), k16]
  have ea : (16 * x + i).toInt = 16 * x.toInt + i.toInt := by rw [ti_add (by omega) (by omega), em]
  have : ((16 * x + i).toNatClampNeg : Int) = 16 * x.toInt + i.toInt := by
    rw [← Int32.toNat_toInt]
    omega
  omega
theorem pl_row {x i : Int32} (hx : iv 0 11 x) (hi : iv 0 15 i) : 0 ≤ ((100 + (20 * x)) + i).toInt := by
  have a : iv 0 220 (20 * x) := iv_mul (c := 20) rfl hx rfl
  have b : iv 100 320 (100 + (20 * x)) := iv_add (iv_lit (lo := 100) (hi := 100) (x := 100) rfl) a rfl
  have c : iv 100 335 ((100 + (20 * x)) + i) := iv_add b hi rfl
  unfold iv at c
  omega
/-- has a ROW such a place -/
theorem rowp_eq {z : zT} {h g : ph_H} {b : Nat} {v : Int32} (R : RC h g) (I : IM z g) (hb : b < 28) (k : g 10 b = 1) : (FX3_hasRowPlace_s (g 11 b) v h = 0) = (FX12_isIn v.toInt64 0 ((g 18 (g 11 b).toNatClampNeg - 1).toInt64) = 0) := by
  have k0 : ¬ g 10 b = 0 := fun w => absurd (w.symm.trans k) (by decide)
  obtain ⟨a1, a2, a3⟩ := refs R hb k0
  have s16 : iv 0 16 (g 18 (g 11 b).toNatClampNeg) := IMv I 18 _
  obtain ⟨t1, t2⟩ := R.2.2.2.1
  obtain ⟨u1, u2, u3, u4⟩ := t2 _ a2
  have h0 : (0 : Int32).toInt = 0 := by decide
  apply propext
  rw [rowp_iff s16]
  unfold FX3_hasRowPlace_s
  have c1 := nn_t (x := g 11 b) (by omega)
  have c2 : ¬ g 0 18 ≤ g 11 b := by rw [Int32.le_iff_toInt_le]; omega
  simp (decide := true) only [t1, u1, u2, a3, k, c1, c2, ↓reduceIte]
  by_cases d : v < 0
  · rw [if_pos d]
    rw [Int32.lt_iff_toInt_lt] at d
    exact ⟨fun _ => by omega, fun _ => rfl⟩
  · rw [if_neg d]
    have d1 := nlt d
    rw [Int32.le_iff_toInt_le] at d1
    by_cases e : g 18 (g 11 b).toNatClampNeg ≤ v
    · rw [if_pos e]
      rw [Int32.le_iff_toInt_le] at e
      exact ⟨fun _ => by omega, fun _ => rfl⟩
    · rw [if_neg e]
      rw [Int32.le_iff_toInt_le] at e
      exact ⟨fun w => absurd w (by decide), fun w => by omega⟩
theorem rowp_in {z : zT} {g : ph_H} {v : Int32} {x : Nat} (I : IM z g) (e : ¬ FX12_isIn v.toInt64 0 ((g 18 x - 1).toInt64) = 0) : iv 0 15 v ∧ (v.toNatClampNeg : Int) < (g 18 x).toInt := by
  have s16 : iv 0 16 (g 18 x) := IMv I 18 _
  rw [rowp_iff s16] at e
  have e2 : 0 ≤ v.toInt ∧ v.toInt < (g 18 x).toInt := Classical.byContradiction fun w => e w
  unfold iv at *
  refine ⟨by omega, ?_⟩
  rw [← Int32.toNat_toInt]
  omega
theorem op_9 {z : zT} {h g : ph_H} {t : Int32} (R : RC h g) (I : IM z g) (ht : iv 0 3 t) (S : S0c t h g) (e18 : h 18 t.toNatClampNeg = g 12 t.toNatClampNeg) {i : Int32} (q0 : h 10 (FX5_firstPart_t t (h 18 t.toNatClampNeg) h).toNatClampNeg = g 2 i.toNatClampNeg) (q1 : h 10 ((FX5_firstPart_t t (h 18 t.toNatClampNeg) h) + 1).toNatClampNeg = g 3 i.toNatClampNeg) (q2 : h 10 ((FX5_firstPart_t t (h 18 t.toNatClampNeg) h) + 2).toNatClampNeg = g 4 i.toNatClampNeg) (q3 : h 10 ((FX5_firstPart_t t (h 18 t.toNatClampNeg) h) + 3).toNatClampNeg = g 5 i.toNatClampNeg) (o : g 2 i.toNatClampNeg = 9) : SIM t (FX3_perform_s t h) (FX12_instruct t i g) := by
  rw [pf_9 (q0.trans o) q1 q2 q3, slot_eq t _ g, slot_eq t _ g, slot_eq t _ g]
  unfold FX3_readRow_s FX3_hold_s
  obtain ⟨b1, b2⟩ := R.1 _ (sl_lt (a := g 4 i.toNatClampNeg) (g := g) ht)
  obtain ⟨d1, d2⟩ := R.1 _ (sl_lt (a := g 5 i.toNatClampNeg) (g := g) ht)
  rw [b1, b2, d1, d2]
  by_cases c1 : g 10 (FX12_local t (g 4 i.toNatClampNeg) g).toNatClampNeg = 1
  · by_cases c2 : g 10 (FX12_local t (g 5 i.toNatClampNeg) g).toNatClampNeg = 0
    · have pe := rowp_eq (v := g 11 (FX12_local t (g 5 i.toNatClampNeg) g).toNatClampNeg) R I (sl_lt (a := g 4 i.toNatClampNeg) (g := g) ht) c1
      rw [if_pos c1, if_pos c2]
      by_cases c3 : FX12_isIn (g 11 (FX12_local t (g 5 i.toNatClampNeg) g).toNatClampNeg).toInt64 0 ((g 18 (g 11 (FX12_local t (g 4 i.toNatClampNeg) g).toNatClampNeg).toNatClampNeg) - 1).toInt64 = 0
      · rw [if_pos (pe.mpr c3), ins_f (w := 4) (by rw [o]; decide) (by rw [o]; unfold FX12_why; simp (decide := true) only [c1, c2, c3, ↓reduceIte]) (by decide)]
        exact fin_fail R S (by decide) (by decide)
      · rw [if_neg (fun w => c3 (pe.mp w)), ins_9 o c1 c2 c3]
        obtain ⟨v1, v2⟩ := rowp_in I c3
        obtain ⟨a1, a2, a3⟩ := refs R (sl_lt (a := g 4 i.toNatClampNeg) (g := g) ht) (fun w => absurd (w.symm.trans c1) (by decide))
        have tn := th_nn I
        have xi : iv 0 11 (g 11 (FX12_local t (g 4 i.toNatClampNeg) g).toNatClampNeg) := ⟨by omega, by omega⟩
        have rw1 := (R.2.2.2.1.2 _ a2).2.2.2 _ v2
        rw [Int32.mul_comm (g 11 (FX12_local t (g 4 i.toNatClampNeg) g).toNatClampNeg) 16, Int32.mul_comm (g 11 (FX12_local t (g 4 i.toNatClampNeg) g).toNatClampNeg) 20, rp_ix xi v1, rw1]
        obtain ⟨s1, s2, s3, s4, s5, s6, s7⟩ := S
        refine fin_go (((R.rs (i := 25) (v := 0) rfl).cs (by decide)).rs rfl |>.slot (Or.inl rfl)) ?_ (by simp [hs_get]) (by
          refine ⟨Or.inr ?_, Or.inl ?_⟩
          · rw [hs_o (by simp), hs_o (by simp), hs_self]
            exact pl_row xi v1
          · rw [hs_o (by simp), hs_o (by simp), hs_o (by simp), hs_o (by simp)]
            exact s6) ?_
        · simp [EF, hs_get, s2, s3, s4, s5, s6, s7]
        · simp [hs_get, s1, e18]
    · rw [if_pos c1, if_neg c2, ins_f (w := 1) (by rw [o]; decide) (by rw [o]; unfold FX12_why FX12_why_196; simp (decide := true) only [c1, c2, ↓reduceIte]) (by decide)]
      exact fin_fail R S (by decide) (by decide)
  · rw [if_neg c1, ins_f (w := 1) (by rw [o]; decide) (by rw [o]; unfold FX12_why FX12_why_196; simp (decide := true) only [c1, ↓reduceIte]) (by decide)]
    exact fin_fail R S (by decide) (by decide)
theorem op_10 {z : zT} {h g : ph_H} {t : Int32} (R : RC h g) (I : IM z g) (ht : iv 0 3 t) (S : S0c t h g) (e18 : h 18 t.toNatClampNeg = g 12 t.toNatClampNeg) {i : Int32} (q0 : h 10 (FX5_firstPart_t t (h 18 t.toNatClampNeg) h).toNatClampNeg = g 2 i.toNatClampNeg) (q1 : h 10 ((FX5_firstPart_t t (h 18 t.toNatClampNeg) h) + 1).toNatClampNeg = g 3 i.toNatClampNeg) (q2 : h 10 ((FX5_firstPart_t t (h 18 t.toNatClampNeg) h) + 2).toNatClampNeg = g 4 i.toNatClampNeg) (q3 : h 10 ((FX5_firstPart_t t (h 18 t.toNatClampNeg) h) + 3).toNatClampNeg = g 5 i.toNatClampNeg) (o : g 2 i.toNatClampNeg = 10) : SIM t (FX3_perform_s t h) (FX12_instruct t i g) := by
  rw [pf_10 (q0.trans o) q1 q2 q3, slot_eq t _ g, slot_eq t _ g, slot_eq t _ g]
  unfold FX3_writeRow_s FX3_bothNumbers_s
  obtain ⟨a1, a2⟩ := R.1 _ (sl_lt (a := g 3 i.toNatClampNeg) (g := g) ht)
  obtain ⟨b1, b2⟩ := R.1 _ (sl_lt (a := g 4 i.toNatClampNeg) (g := g) ht)
  obtain ⟨d1, d2⟩ := R.1 _ (sl_lt (a := g 5 i.toNatClampNeg) (g := g) ht)
  rw [a1, a2, b1, b2, d1, d2]
  by_cases c1 : g 10 (FX12_local t (g 3 i.toNatClampNeg) g).toNatClampNeg = 1
  · by_cases c2 : g 10 (FX12_local t (g 4 i.toNatClampNeg) g).toNatClampNeg = 0
    · by_cases c3 : g 10 (FX12_local t (g 5 i.toNatClampNeg) g).toNatClampNeg = 0
      · have pe := rowp_eq (v := g 11 (FX12_local t (g 4 i.toNatClampNeg) g).toNatClampNeg) R I (sl_lt (a := g 3 i.toNatClampNeg) (g := g) ht) c1
        simp (decide := true) only [c1, c2, c3, ↓reduceIte]
        by_cases c4 : FX12_isIn (g 11 (FX12_local t (g 4 i.toNatClampNeg) g).toNatClampNeg).toInt64 0 ((g 18 (g 11 (FX12_local t (g 3 i.toNatClampNeg) g).toNatClampNeg).toNatClampNeg) - 1).toInt64 = 0
        · rw [if_pos (pe.mpr c4), ins_f (w := 4) (by rw [o]; decide) (by rw [o]; unfold FX12_why; simp (decide := true) only [c1, c2, c3, c4, ↓reduceIte]) (by decide)]
          exact fin_fail R S (by decide) (by decide)
        · rw [if_neg (fun w => c4 (pe.mp w)), ins_10 o c1 c2 c3 c4]
          rw [Int32.mul_comm (g 11 (FX12_local t (g 3 i.toNatClampNeg) g).toNatClampNeg) 16, Int32.mul_comm (g 11 (FX12_local t (g 3 i.toNatClampNeg) g).toNatClampNeg) 20]
          obtain ⟨s1, s2, s3, s4, s5, s6, s7⟩ := S
          refine fin_go (((R.rs (i := 25) (v := 0) rfl).cs (by decide)).rs rfl |>.row) ?_ (by simp [hs_get]) (by
            obtain ⟨v1, v2⟩ := rowp_in I c4
            obtain ⟨r1, r2, r3⟩ := refs R (sl_lt (a := g 3 i.toNatClampNeg) (g := g) ht) (fun w => absurd (w.symm.trans c1) (by decide))
            have tn := th_nn I
            have xi : iv 0 11 (g 11 (FX12_local t (g 3 i.toNatClampNeg) g).toNatClampNeg) := ⟨by omega, by omega⟩
            refine ⟨Or.inl ?_, Or.inr ?_⟩
            · rw [hs_o (by simp), hs_o (by simp), hs_o (by simp)]
              exact s5
            · rw [hs_o (by simp), hs_self]
              exact pl_row xi v1) ?_
          · simp [EF, hs_get, s2, s3, s4, s5, s6, s7]
          · simp [hs_get, s1, e18]
      · simp (decide := true) only [c1, c2, c3, ↓reduceIte]
        rw [ins_f (w := 1) (by rw [o]; decide) (by rw [o]; unfold FX12_why FX12_why_266; simp (decide := true) only [c1, c2, c3, ↓reduceIte]) (by decide)]
        exact fin_fail R S (by decide) (by decide)
    · simp (decide := true) only [c1, c2, ↓reduceIte]
      rw [ins_f (w := 1) (by rw [o]; decide) (by rw [o]; unfold FX12_why FX12_why_266; simp (decide := true) only [c1, c2, ↓reduceIte]) (by decide)]
      exact fin_fail R S (by decide) (by decide)
  · simp (decide := true) only [c1, ↓reduceIte]
    rw [ins_f (w := 1) (by rw [o]; decide) (by rw [o]; unfold FX12_why FX12_why_266; simp (decide := true) only [c1, ↓reduceIte]) (by decide)]
    exact fin_fail R S (by decide) (by decide)
/-! new THINGS -/
theorem mr44 : ∀ (q : Nat) (x1 x3 x4 : Int32) (h : ph_H), iv 0 11 (h 15 10) → iv 0 16 x3 → 0 ≤ x4.toInt → x4.toInt ≤ x3.toInt → x3.toInt - x4.toInt < (q : Int) → ∃ h', FX3_makeRow_s_44 q x1 x3 x4 h = FX3_makeThing_s x1 1 x3 h' ∧ (∀ p i, ¬ p = 24 → h' p i = h p i) ∧ (∀ j : Nat, x4.toInt ≤ j → (j : Int) < x3.toInt → h' 24 (16 * (h 15 10).toNatClampNeg + j) = 0) ∧ (∀ i : Nat, (i : Int) < 16 * (h 15 10).toInt + x4.toInt → h' 24 i = h 24 i)
  | 0, x1, x3, x4, h, f3, f4, m0, m1, m => by omega
  | q + 1, x1, x3, x4, h, f3, f4, m0, m1, m => by
    have k1 : (1 : Int32).toInt = 1 := by decide
    have k16 : (16 : Int32).toInt = 16 := by decide
    have n3 := iv_nat f3 rfl
    have f3' := f3
    unfold iv at f3 f4
    unfold FX3_makeRow_s_44
    by_cases c : x3 ≤ x4
    · rw [if_pos c]
      rw [Int32.le_iff_toInt_le] at c
      exact ⟨h, rfl, fun _ _ _ => rfl, fun j a b => by omega, fun _ _ => rfl⟩
    · rw [if_neg c]
      rw [Int32.le_iff_toInt_le] at c
      have e4 : (x4 + 1).toInt = x4.toInt + 1 := by rw [ti_add (by omega) (by omega), k1]
      have em : (h 15 10 * 16).toInt = 16 * (h 15 10).toInt := by rw [ti_mul (by rw [k16]; omega) (by rw [k16]; omega), k16]; omega
      have ea : (h 15 10 * 16 + x4).toInt = 16 * (h 15 10).toInt + x4.toInt := by rw [ti_add (by omega) (by omega), em]
      have ix : ((h 15 10 * 16 + x4).toNatClampNeg : Int) = 16 * (h 15 10).toInt + x4.toInt := by
        rw [← Int32.toNat_toInt]
        omega
      have hk : hs h 24 (h 15 10 * 16 + x4).toNatClampNeg 0 15 10 = h 15 10 := hs_o (by simp)
      obtain ⟨h', a1, a2, a3, a4⟩ := mr44 q x1 x3 (x4 + 1) (hs h 24 (h 15 10 * 16 + x4).toNatClampNeg 0) (by rw [hk]; exact f3') f4 (by omega) (by omega) (by omega)
      rw [hk] at a3 a4
      refine ⟨h', a1, fun p i hp => ?_, fun j hj hk2 => ?_, fun i hi => ?_⟩
      · rw [a2 p i hp, hs_o (fun w => hp w.1)]
      · by_cases d : (j : Int) = x4.toInt
        · rw [a4 _ (by omega), hs_get, if_pos rfl, if_pos (by omega)]
        · exact a3 j (by omega) hk2
      · rw [a4 i (by omega), hs_o (fun w => by omega)]
theorem new_sim {z : zT} {h h' g : ph_H} {kd sz slot : Int32} (R : RC h g) (I : IM z g) (hl : (g 0 18).toInt < 12) (hz : sz.toInt ≤ 16) (hf : ∀ p i, ¬ p = 24 → h' p i = h p i) (hr : ∀ i : Nat, (i : Int) < 16 * (g 0 18).toInt → h' 24 i = h 24 i) (h0 : ∀ j : Nat, (j : Int) < sz.toInt → h' 24 (16 * (g 0 18).toNatClampNeg + j) = 0) :
    RC (FX3_makeThing_s slot kd sz h').2 (hs (hs (FX12_newThing kd sz g).2 10 slot.toNatClampNeg kd) 11 slot.toNatClampNeg (g 0 18)) := by
  have tn := th_nn I
  have k1 : (1 : Int32).toInt = 1 := by decide
  obtain ⟨g', a1, a2, a3, a4⟩ := nt_eq (k := kd) (n := sz) I hl
  have R1 := (R.rowc I hf hr).rowr I a2 a4
  have e0 : g' 0 18 = g 0 18 := a2 0 18 (by decide)
  have e1 : h' 15 10 = g 0 18 := by rw [hf _ _ (by decide)]; exact R.2.2.2.1.1
  have I1 : IVm g' := fun k i => by
    by_cases c : k = 19
    · subst c
      exact iv_any _
    · rw [a2 k i c]
      exact I.1 k i
  have I2 : IM z g' := ⟨I1, fun i => by rw [a2 10 i (by decide), a2 11 i (by decide)]; exact I.2.1 i, fun k i q => by
    by_cases c : k = 19
    · subst c
      rw [show gz 19 i = false from rfl] at q
      exact absurd q (by decide)
    · rw [a2 k i c]
      exact I.2.2 k i q⟩
  have R2 := R1.new (kd := kd) (sz := sz) I2 (by rw [e0]; exact hl) (fun i hi => by
    rw [e0, h0 i hi]
    exact (a3 i (by omega)).symm)
  rw [e0] at R2
  rw [a1]
  unfold FX3_makeThing_s
  rw [e1]
  refine R2.slot (Or.inr ⟨tn.1, ?_, ?_⟩)
  · rw [hs_self, ti_add (by omega) (by omega), k1]
    omega
  · rw [hs_o (by simp), hs_o (by simp), hs_o (by simp), hs_self]
theorem nt_0 {z : zT} {k n : Int32} {g : ph_H} (I : IM z g) (hl : (g 0 18).toInt < 12) {j : Nat} (e : ¬ j = 18) : (FX12_newThing k n g).2 0 j = g 0 j := by
  obtain ⟨g', a, b, c⟩ := nt_eq (k := k) (n := n) I hl
  rw [a]
  simp [hs_get, b 0 j (by decide), e]
theorem th12 {z : zT} {g : ph_H} (I : IM z g) : g 0 18 < 12 ↔ ¬ g 0 18 = 12 := by
  have tn := th_nn I
  have k12 : (12 : Int32).toInt = 12 := by decide
  rw [Int32.lt_iff_toInt_lt, k12]
  constructor
  · intro a b
    rw [b] at a
    omega
  · intro a
    have : ¬ (g 0 18).toInt = 12 := fun w => a (tI (w.trans k12.symm))
    omega
theorem op_8 {z : zT} {h g : ph_H} {t : Int32} (R : RC h g) (I : IM z g) (ht : iv 0 3 t) (S : S0c t h g) (e18 : h 18 t.toNatClampNeg = g 12 t.toNatClampNeg) {i : Int32} (q0 : h 10 (FX5_firstPart_t t (h 18 t.toNatClampNeg) h).toNatClampNeg = g 2 i.toNatClampNeg) (q1 : h 10 ((FX5_firstPart_t t (h 18 t.toNatClampNeg) h) + 1).toNatClampNeg = g 3 i.toNatClampNeg) (q2 : h 10 ((FX5_firstPart_t t (h 18 t.toNatClampNeg) h) + 2).toNatClampNeg = g 4 i.toNatClampNeg) (q3 : h 10 ((FX5_firstPart_t t (h 18 t.toNatClampNeg) h) + 3).toNatClampNeg = g 5 i.toNatClampNeg) (o : g 2 i.toNatClampNeg = 8) : SIM t (FX3_perform_s t h) (FX12_instruct t i g) := by
  rw [pf_8 (q0.trans o) q1 q2 q3, slot_eq t _ g, slot_eq t _ g]
  unfold FX3_makeRow_s
  obtain ⟨b1, b2⟩ := R.1 _ (sl_lt (a := g 4 i.toNatClampNeg) (g := g) ht)
  have e10 := R.2.2.2.1.1
  rw [b1, b2, e10]
  by_cases c1 : g 10 (FX12_local t (g 4 i.toNatClampNeg) g).toNatClampNeg = 0
  · by_cases c2 : 0 ≤ g 11 (FX12_local t (g 4 i.toNatClampNeg) g).toNatClampNeg
    · by_cases c3 : 16 < g 11 (FX12_local t (g 4 i.toNatClampNeg) g).toNatClampNeg
      · simp (decide := true) only [c1, c2, c3, ↓reduceIte]
        rw [ins_f (w := 3) (by rw [o]; decide) (by rw [o]; unfold FX12_why FX12_why_169; simp (decide := true) only [c1, c2, c3, ↓reduceIte]) (by decide)]
        exact fin_fail R S (by decide) (by decide)
      · by_cases c4 : g 0 18 = 12
        · have c5 : ¬ g 0 18 < 12 := fun w => (th12 I).mp w c4
          simp only [c1, c2, c3, c5, ↓reduceIte]
          rw [ins_f (w := 3) (by rw [o]; decide) (by rw [o]; unfold FX12_why FX12_why_169; simp (decide := true) only [c1, c2, c3, c4, ↓reduceIte]) (by decide)]
          exact fin_fail R S (by decide) (by decide)
        · have c5 : g 0 18 < 12 := (th12 I).mpr c4
          have hl : (g 0 18).toInt < 12 := by
            rw [Int32.lt_iff_toInt_lt] at c5
            exact c5
          simp only [c1, c2, c3, c5, ↓reduceIte]
          rw [ins_8 I hl o c1 c2 c3 c4]
          have k0 : (0 : Int32).toInt = 0 := by decide
          have k16 : (16 : Int32).toInt = 16 := by decide
          have tn := th_nn I
          have c2i := c2
          have c3i := c3
          rw [Int32.le_iff_toInt_le, k0] at c2i
          rw [Int32.lt_iff_toInt_lt, k16] at c3i
          obtain ⟨h', m1, m2, m3, m4⟩ := mr44 2000 (FX12_local t (g 3 i.toNatClampNeg) g) (g 11 (FX12_local t (g 4 i.toNatClampNeg) g).toNatClampNeg) 0 h (by rw [e10]; exact ⟨tn.1, by omega⟩) ⟨c2i, by omega⟩ (by decide) (by omega) (by omega)
          rw [m1]
          rw [e10] at m3 m4
          have I1 : IM z (hs g 0 25 0) := IMs I (iv_any _) rfl
          have hl1 : (hs g 0 25 0 0 18).toInt < 12 := by rw [hs_o (by simp)]; exact hl
          have N := new_sim (kd := 1) (sz := g 11 (FX12_local t (g 4 i.toNatClampNeg) g).toNatClampNeg) (slot := (FX12_local t (g 3 i.toNatClampNeg) g)) (R.rs (i := 25) (v := 0) rfl) I1 hl1 (by omega) m2 (fun i hi => m4 i (by rw [hs_o (by simp)] at hi; omega)) (fun j hj => by rw [hs_o (by simp)]; exact m3 j (by omega) hj)
          rw [hs_o (by simp)] at N
          obtain ⟨s1, s2, s3, s4, s5, s6, s7⟩ := S
          have F : ∀ j, 12 < j → (FX3_makeThing_s (FX12_local t (g 3 i.toNatClampNeg) g) 1 (g 11 (FX12_local t (g 4 i.toNatClampNeg) g).toNatClampNeg) h').2 15 j = h 15 j := fun j hj => by
            unfold FX3_makeThing_s
            have : ¬ j = 10 := by omega
            simp [hs_get, this, m2 15 j (by decide)]
          refine fin_go (X := (FX3_makeThing_s (FX12_local t (g 3 i.toNatClampNeg) g) 1 (g 11 (FX12_local t (g 4 i.toNatClampNeg) g).toNatClampNeg) h').2) N ?_ ?_ (by
            have z29 := nt_0 (k := 1) (n := g 11 (FX12_local t (g 4 i.toNatClampNeg) g).toNatClampNeg) I1 hl1 (j := 29) (by decide)
            have z30 := nt_0 (k := 1) (n := g 11 (FX12_local t (g 4 i.toNatClampNeg) g).toNatClampNeg) I1 hl1 (j := 30) (by decide)
            simp [PLp, hs_get, z29, z30, s5, s6]) ?_
          · have z29 := nt_0 (k := 1) (n := g 11 (FX12_local t (g 4 i.toNatClampNeg) g).toNatClampNeg) I1 hl1 (j := 29) (by decide)
            have z30 := nt_0 (k := 1) (n := g 11 (FX12_local t (g 4 i.toNatClampNeg) g).toNatClampNeg) I1 hl1 (j := 30) (by decide)
            have z31 := nt_0 (k := 1) (n := g 11 (FX12_local t (g 4 i.toNatClampNeg) g).toNatClampNeg) I1 hl1 (j := 31) (by decide)
            simp [EF, hs_get, F, z29, z30, z31, s2, s3, s4, s5, s6, s7]
          · have z25 := nt_0 (k := 1) (n := g 11 (FX12_local t (g 4 i.toNatClampNeg) g).toNatClampNeg) I1 hl1 (j := 25) (by decide)
            simp [hs_get, z25]
          · rw [F 13 (by decide), s1, e18]
    · simp (decide := true) only [c1, c2, ↓reduceIte]
      rw [ins_f (w := 2) (by rw [o]; decide) (by rw [o]; unfold FX12_why; simp (decide := true) only [c1, c2, ↓reduceIte]) (by decide)]
      exact fin_fail R S (by decide) (by decide)
  · simp (decide := true) only [c1, ↓reduceIte]
    rw [ins_f (w := 1) (by rw [o]; decide) (by rw [o]; unfold FX12_why; simp (decide := true) only [c1, ↓reduceIte]) (by decide)]
    exact fin_fail R S (by decide) (by decide)
theorem mkl {z : zT} {h g : ph_H} {t i : Int32} {kd : Int32} (R : RC h g) (I : IM z g) (ht : iv 0 3 t) (S : S0c t h g) (e18 : h 18 t.toNatClampNeg = g 12 t.toNatClampNeg) (o : g 2 i.toNatClampNeg = 11) (c4 : ¬ g 0 18 = 12) (hk : kd = if (g 4 i.toNatClampNeg - g 4 i.toNatClampNeg / 2 * 2) = 0 then 2 else 3) : SIM t (FX3_makeThing_s (FX12_local t (g 3 i.toNatClampNeg) g) kd 0 h) (FX12_instruct t i g) := by
  have c5 : g 0 18 < 12 := (th12 I).mpr c4
  have hl : (g 0 18).toInt < 12 := by
    rw [Int32.lt_iff_toInt_lt] at c5
    exact c5
  rw [ins_11 I hl o c4 hk]
  have k0 : (0 : Int32).toInt = 0 := by decide
  have I1 : IM z (hs g 0 25 0) := IMs I (iv_any _) rfl
  have hl1 : (hs g 0 25 0 0 18).toInt < 12 := by rw [hs_o (by simp)]; exact hl
  have N := new_sim (kd := kd) (sz := 0) (slot := (FX12_local t (g 3 i.toNatClampNeg) g)) (R.rs (i := 25) (v := 0) rfl) I1 hl1 (by decide) (fun _ _ _ => rfl) (fun _ _ => rfl) (fun j hj => by omega)
  rw [hs_o (by simp)] at N
  obtain ⟨s1, s2, s3, s4, s5, s6, s7⟩ := S
  have F : ∀ j, 12 < j → (FX3_makeThing_s (FX12_local t (g 3 i.toNatClampNeg) g) kd 0 h).2 15 j = h 15 j := fun j hj => by
    unfold FX3_makeThing_s
    have : ¬ j = 10 := by omega
    simp [hs_get, this]
  refine fin_go (X := (FX3_makeThing_s (FX12_local t (g 3 i.toNatClampNeg) g) kd 0 h).2) N ?_ ?_ (by
    have z29 := nt_0 (k := kd) (n := 0) I1 hl1 (j := 29) (by decide)
    have z30 := nt_0 (k := kd) (n := 0) I1 hl1 (j := 30) (by decide)
    simp [PLp, hs_get, z29, z30, s5, s6]) ?_
  · have z29 := nt_0 (k := kd) (n := 0) I1 hl1 (j := 29) (by decide)
    have z30 := nt_0 (k := kd) (n := 0) I1 hl1 (j := 30) (by decide)
    have z31 := nt_0 (k := kd) (n := 0) I1 hl1 (j := 31) (by decide)
    simp [EF, hs_get, F, z29, z30, z31, s2, s3, s4, s5, s6, s7]
  · have z25 := nt_0 (k := kd) (n := 0) I1 hl1 (j := 25) (by decide)
    simp [hs_get, z25]
  · rw [F 13 (by decide), s1, e18]
theorem op_11 {z : zT} {h g : ph_H} {t : Int32} (R : RC h g) (I : IM z g) (ht : iv 0 3 t) (S : S0c t h g) (e18 : h 18 t.toNatClampNeg = g 12 t.toNatClampNeg) {i : Int32} (q0 : h 10 (FX5_firstPart_t t (h 18 t.toNatClampNeg) h).toNatClampNeg = g 2 i.toNatClampNeg) (q1 : h 10 ((FX5_firstPart_t t (h 18 t.toNatClampNeg) h) + 1).toNatClampNeg = g 3 i.toNatClampNeg) (q2 : h 10 ((FX5_firstPart_t t (h 18 t.toNatClampNeg) h) + 2).toNatClampNeg = g 4 i.toNatClampNeg) (q3 : h 10 ((FX5_firstPart_t t (h 18 t.toNatClampNeg) h) + 3).toNatClampNeg = g 5 i.toNatClampNeg) (o : g 2 i.toNatClampNeg = 11) : SIM t (FX3_perform_s t h) (FX12_instruct t i g) := by
  rw [pf_11 (q0.trans o) q1 q2 q3, slot_eq t _ g]
  unfold FX3_makeLock_s FX3_makeLock_s_22
  have e10 := R.2.2.2.1.1
  rw [e10]
  by_cases c4 : g 0 18 = 12
  · have c5 : ¬ g 0 18 < 12 := fun w => (th12 I).mp w c4
    rw [ins_f (w := 3) (by rw [o]; decide) (by rw [o]; unfold FX12_why; simp (decide := true) only [c4, ↓reduceIte]) (by decide)]
    simp only [c5, ↓reduceIte, ite_self]
    exact fin_fail R S (by decide) (by decide)
  · have c5 : g 0 18 < 12 := (th12 I).mpr c4
    by_cases b : (g 4 i.toNatClampNeg &&& 1) = 0
    · simp (decide := true) only [b, c5, ↓reduceIte]
      exact mkl R I ht S e18 o c4 (by rw [if_pos ((and1_even _).mp b)])
    · simp (decide := true) only [b, c5, ↓reduceIte]
      exact mkl R I ht S e18 o c4 (by rw [if_neg (fun w => b ((and1_even _).mpr w))])
/-! WORD -/
theorem wk28 {z : zT} {a : Int32} : ∀ (q : Nat) (x : Int32) (h g : ph_H), RC h g → IM z g → 0 ≤ (g 11 a.toNatClampNeg).toInt → iv 0 4 x → 4 - x.toInt < (q : Int) → ∃ h', FX3_wakeSleepers_s_28 q (g 11 a.toNatClampNeg) x h = (0, hs h' 15 16 3) ∧ RC h' (FX12_work_391 q a x g) ∧ (∀ p i, ¬ p = 19 → h' p i = h p i)
  | 0, x, h, g, R, I, n, f, m => by unfold iv at f; omega
  | q + 1, x, h, g, R, I, n, f, m => by
    have k1 : (1 : Int32).toInt = 1 := by decide
    have k4 : (4 : Int32).toInt = 4 := by decide
    have xn := iv_nat f rfl
    unfold iv at f
    unfold FX3_wakeSleepers_s_28 FX3_wakeSleepers_s_64 FX12_work_391 FX12_work_435
    by_cases c : 4 ≤ x
    · rw [if_pos c, if_pos c]
      exact ⟨h, rfl, R, fun _ _ _ => rfl⟩
    · rw [if_neg c, if_neg c]
      rw [Int32.le_iff_toInt_le, k4] at c
      have e4 : (x + 1).toInt = x.toInt + 1 := by rw [ti_add (by omega) (by omega), k1]
      have hx : x.toNatClampNeg < 4 := by omega
      have md := R.2.2.1 _ hx
      by_cases d : g 14 x.toNatClampNeg = g 11 a.toNatClampNeg
      · rw [if_pos d]
        have m2 : h 19 x.toNatClampNeg = 2 ∧ h 20 x.toNatClampNeg = g 11 a.toNatClampNeg := by
          have n1 : (-1 : Int32).toInt = -1 := by decide
          rcases md with ⟨_, _, w, _⟩ | ⟨_, _, w, _⟩ | ⟨m, _, w, _, _⟩ | ⟨_, _, w, _⟩
          · rw [← d, w] at n; omega
          · rw [← d, w] at n; omega
          · exact ⟨m, w.symm.trans d⟩
          · rw [← d, w] at n; omega
        rw [if_pos m2.1, if_pos m2.2]
        have R1 := R.wake I hx m2.1
        have e11 : hs (hs g 15 x.toNatClampNeg (g 14 x.toNatClampNeg)) 14 x.toNatClampNeg (-1) 11 a.toNatClampNeg = g 11 a.toNatClampNeg := by rw [hs_o (by simp), hs_o (by simp)]
        have I1 : IM z (hs (hs g 15 x.toNatClampNeg (g 14 x.toNatClampNeg)) 14 x.toNatClampNeg (-1)) := IMs (IMs I (k := 15) (i := x.toNatClampNeg) (IMv I 14 x.toNatClampNeg) rfl) (k := 14) (i := x.toNatClampNeg) (show iv (-1) 11 (-1) from ⟨by decide, by decide⟩) rfl
        obtain ⟨h', b1, b2, b3⟩ := wk28 q (x + 1) _ _ R1 I1 (by rw [e11]; exact n) (by unfold iv; omega) (by omega)
        rw [e11] at b1
        exact ⟨h', b1, b2, fun p i hp => by rw [b3 p i hp, hs_o (fun w => hp w.1)]⟩
      · rw [if_neg d]
        have : (if h 19 x.toNatClampNeg = 2 then (if h 20 x.toNatClampNeg = g 11 a.toNatClampNeg then FX3_wakeSleepers_s_28 q (g 11 a.toNatClampNeg) (x + 1) (hs h 19 x.toNatClampNeg 3) else FX3_wakeSleepers_s_28 q (g 11 a.toNatClampNeg) (x + 1) h) else FX3_wakeSleepers_s_28 q (g 11 a.toNatClampNeg) (x + 1) h) = FX3_wakeSleepers_s_28 q (g 11 a.toNatClampNeg) (x + 1) h := by
          by_cases u : h 19 x.toNatClampNeg = 2
          · have w := MD2 md u
            rw [if_pos u, if_neg (fun v => d (w.2.1.trans v))]
          · rw [if_neg u]
        rw [this]
        exact wk28 q (x + 1) h g R I n (by unfold iv; omega) (by omega)
theorem op_15 {z : zT} {h g : ph_H} {t : Int32} (R : RC h g) (I : IM z g) (ht : iv 0 3 t) (S : S0c t h g) (e18 : h 18 t.toNatClampNeg = g 12 t.toNatClampNeg) {i : Int32} (q0 : h 10 (FX5_firstPart_t t (h 18 t.toNatClampNeg) h).toNatClampNeg = g 2 i.toNatClampNeg) (q1 : h 10 ((FX5_firstPart_t t (h 18 t.toNatClampNeg) h) + 1).toNatClampNeg = g 3 i.toNatClampNeg) (q2 : h 10 ((FX5_firstPart_t t (h 18 t.toNatClampNeg) h) + 2).toNatClampNeg = g 4 i.toNatClampNeg) (q3 : h 10 ((FX5_firstPart_t t (h 18 t.toNatClampNeg) h) + 3).toNatClampNeg = g 5 i.toNatClampNeg) (o : g 2 i.toNatClampNeg = 15) : SIM t (FX3_perform_s t h) (FX12_instruct t i g) := by
  rw [pf_15 (q0.trans o) q1 q2 q3, slot_eq t _ g]
  unfold FX3_wakeSleepers_s
  rw [gate_eq R (sl_lt ht)]
  by_cases l : g 10 (FX12_local t (g 3 i.toNatClampNeg) g).toNatClampNeg = 3
  · have l0 : ¬ g 10 (FX12_local t (g 3 i.toNatClampNeg) g).toNatClampNeg = 0 := fun w => absurd (w.symm.trans l) (by decide)
    have lo := own_at R (sl_lt ht) l0
    obtain ⟨a, b, c⟩ := refs R (sl_lt ht) l0
    have nn := nn_le (x := g 11 (FX12_local t (g 3 i.toNatClampNeg) g).toNatClampNeg) (by omega)
    simp (decide := true) only [l, nn, ↓reduceIte]
    by_cases u : g 17 (g 11 (FX12_local t (g 3 i.toNatClampNeg) g).toNatClampNeg).toNatClampNeg = t
    · rw [if_pos ((OW_own lo ht).mpr u), ins_15 o l u]
      have I1 : IM z (hs (hs (hs g 0 25 0) 0 31 3) 0 32 (g 11 (FX12_local t (g 3 i.toNatClampNeg) g).toNatClampNeg)) := IMs (IMs (IMs I (k := 0) (i := 25) (iv_any _) rfl) (k := 0) (i := 31) (iv_any _) rfl) (k := 0) (i := 32) (iv_any _) rfl
      have e11 : hs (hs (hs g 0 25 0) 0 31 3) 0 32 (g 11 (FX12_local t (g 3 i.toNatClampNeg) g).toNatClampNeg) 11 (FX12_local t (g 3 i.toNatClampNeg) g).toNatClampNeg = g 11 (FX12_local t (g 3 i.toNatClampNeg) g).toNatClampNeg := by rw [hs_o (by simp), hs_o (by simp), hs_o (by simp)]
      obtain ⟨h', b1, b2, b3⟩ := wk28 (z := z) (a := (FX12_local t (g 3 i.toNatClampNeg) g)) 2000 0 h (hs (hs (hs g 0 25 0) 0 31 3) 0 32 (g 11 (FX12_local t (g 3 i.toNatClampNeg) g).toNatClampNeg)) (((R.rs rfl).rs rfl).rs rfl) I1 (by rw [e11]; omega) ⟨by decide, by decide⟩ (by decide)
      rw [e11] at b1
      rw [b1]
      obtain ⟨s1, s2, s3, s4, s5, s6, s7⟩ := S
      have W : ∀ j, FX12_work_391 2000 (FX12_local t (g 3 i.toNatClampNeg) g) 0 (hs (hs (hs g 0 25 0) 0 31 3) 0 32 (g 11 (FX12_local t (g 3 i.toNatClampNeg) g).toNatClampNeg)) 0 j = hs (hs (hs g 0 25 0) 0 31 3) 0 32 (g 11 (FX12_local t (g 3 i.toNatClampNeg) g).toNatClampNeg) 0 j := fun j => w391_o _ _ _ _ _ _ (by decide) (by decide)
      have F : ∀ j, h' 15 j = h 15 j := fun j => b3 15 j (by decide)
      refine fin_go (b2.cs (by decide)) ?_ ?_ (by simp [PLp, W, hs_get, s5, s6]) ?_
      · simp [EF, W, F, hs_get, s2, s3, s4, s5, s6, s7]
      · simp [W, hs_get]
      · simp [hs_get, F, s1, e18]
    · rw [ins_f (w := 6) (by rw [o]; decide) (by rw [o]; unfold FX12_why; simp (decide := true) only [l, u, ↓reduceIte]) (by decide), if_neg (fun w => u ((OW_own lo ht).mp w))]
      exact fin_fail R S (by decide) (by decide)
  · rw [ins_f (w := 1) (by rw [o]; decide) (by rw [o]; unfold FX12_why; simp (decide := true) only [l, ↓reduceIte]) (by decide)]
    simp (decide := true) only [l, le_n1, ↓reduceIte]
    exact fin_fail R S (by decide) (by decide)
end MG_48_x06A7
section MG_48_x07A8
/-! ONE STEP on both sides -/
def rM (k i : Nat) : Bool := match k with
  | 0 => i == 7 || i == 18 || i == 23 || i == 33 || i == 34
  | 1 => true
  | 2 => true
  | 3 => true
  | 4 => true
  | 5 => true
  | 7 => true
  | 10 => true
  | 11 => true
  | 12 => true
  | 13 => true
  | 14 => true
  | 15 => true
  | 16 => true
  | 17 => true
  | 18 => true
  | 19 => true
  | _ => false
def cM (k i : Nat) : Bool := match k with
  | 15 => i == 10 || i == 11 || i == 12
  | 16 => true
  | 17 => true
  | 18 => true
  | 19 => true
  | 20 => true
  | 21 => true
  | 22 => true
  | 23 => true
  | 24 => true
  | 9 => true
  | 10 => true
  | 12 => true
  | _ => false
theorem RC.congr {h h' g g' : ph_H} (R : RC h g) (hc : ∀ k i, cM k i = true → h' k i = h k i) (hr : ∀ k i, rM k i = true → g' k i = g k i) (h36 : ¬ g 0 33 = 0 → ∀ i, g' 36 i = g 36 i) : RC h' g' := by
  obtain ⟨r1, r2, r3, r4, r5, r6, r7⟩ := R
  have c16 : ∀ i, h' 16 i = h 16 i := fun i => hc _ _ rfl
  have c17 : ∀ i, h' 17 i = h 17 i := fun i => hc _ _ rfl
  have c18 : ∀ i, h' 18 i = h 18 i := fun i => hc _ _ rfl
  have c19 : ∀ i, h' 19 i = h 19 i := fun i => hc _ _ rfl
  have c20 : ∀ i, h' 20 i = h 20 i := fun i => hc _ _ rfl
  have c21 : ∀ i, h' 21 i = h 21 i := fun i => hc _ _ rfl
  have c22 : ∀ i, h' 22 i = h 22 i := fun i => hc _ _ rfl
  have c23 : ∀ i, h' 23 i = h 23 i := fun i => hc _ _ rfl
  have c24 : ∀ i, h' 24 i = h 24 i := fun i => hc _ _ rfl
  have c9 : ∀ i, h' 9 i = h 9 i := fun i => hc _ _ rfl
  have cp : ∀ i, h' 10 i = h 10 i := fun i => hc _ _ rfl
  have c12 : ∀ i, h' 12 i = h 12 i := fun i => hc _ _ rfl
  have f10 : h' 15 10 = h 15 10 := hc _ _ rfl
  have f11 : h' 15 11 = h 15 11 := hc _ _ rfl
  have f12 : h' 15 12 = h 15 12 := hc _ _ rfl
  have g1 : ∀ i, g' 1 i = g 1 i := fun i => hr _ _ rfl
  have g2 : ∀ i, g' 2 i = g 2 i := fun i => hr _ _ rfl
  have g3 : ∀ i, g' 3 i = g 3 i := fun i => hr _ _ rfl
  have g4 : ∀ i, g' 4 i = g 4 i := fun i => hr _ _ rfl
  have g5 : ∀ i, g' 5 i = g 5 i := fun i => hr _ _ rfl
  have g7 : ∀ i, g' 7 i = g 7 i := fun i => hr _ _ rfl
  have g10 : ∀ i, g' 10 i = g 10 i := fun i => hr _ _ rfl
  have g11 : ∀ i, g' 11 i = g 11 i := fun i => hr _ _ rfl
  have g12 : ∀ i, g' 12 i = g 12 i := fun i => hr _ _ rfl
  have g13 : ∀ i, g' 13 i = g 13 i := fun i => hr _ _ rfl
  have g14 : ∀ i, g' 14 i = g 14 i := fun i => hr _ _ rfl
  have g15 : ∀ i, g' 15 i = g 15 i := fun i => hr _ _ rfl
  have g16 : ∀ i, g' 16 i = g 16 i := fun i => hr _ _ rfl
  have g17 : ∀ i, g' 17 i = g 17 i := fun i => hr _ _ rfl
  have g18 : ∀ i, g' 18 i = g 18 i := fun i => hr _ _ rfl
  have g19 : ∀ i, g' 19 i = g 19 i := fun i => hr _ _ rfl
  have e7 : g' 0 7 = g 0 7 := hr _ _ rfl
  have e18 : g' 0 18 = g 0 18 := hr _ _ rfl
  have e23 : g' 0 23 = g 0 23 := hr _ _ rfl
  have e33 : g' 0 33 = g 0 33 := hr _ _ rfl
  have e34 : g' 0 34 = g 0 34 := hr _ _ rfl
  have ek : kn g' = kn g := by unfold kn; rw [e7, e33, e34]
  have ev : ∀ k, vi g' k = vi g k := fun k => by
    unfold vi
    rw [e33, g7]
    by_cases c : g 0 33 = 0
    · rw [if_pos c, if_pos c]
    · rw [if_neg c, if_neg c, h36 c]
  refine ⟨?_, ?_, ?_, ?_, ?_, ?_, ?_⟩
  · simpa only [Rsl, c16, c17, g10, g11] using r1
  · simpa only [Rat, c18, g1, g12] using r2
  · simpa only [Rmd, c19, c20, g13, g14, g15] using r3
  · simpa only [Rth, f10, c21, c22, c23, c24, e18, g16, g17, g18, g19] using r4
  · simpa only [Rin, f11, f12, c12, e23, ek, ev] using r5
  · simpa only [Rpr, c9, cp, g1, g2, g3, g4, g5] using r6
  · simpa only [LV, g2, g10, g11, g14, g15, g16, e18] using r7
theorem op_all {z : zT} {h g : ph_H} {t : Int32} (R : RC h g) (I : IM z g) (ht : iv 0 3 t) (S : S0c t h g) (e12 : ¬ g 12 t.toNatClampNeg = 24) (m1 : h 19 t.toNatClampNeg = 1) (kk : g 2 ((24 * t) + g 12 t.toNatClampNeg).toNatClampNeg = 16 → ¬ g 0 33 = 0 → ¬ g 0 23 = g 0 34) : SIM t (FX3_perform_s t h) (FX12_instruct t ((24 * t) + g 12 t.toNatClampNeg) g) := by
  obtain ⟨p0, p1, p2, p3⟩ := parts R I ht e12
  have e18 := (stands R I ht e12).1
  have ob : iv 0 19 (g 2 ((24 * t) + g 12 t.toNatClampNeg).toNatClampNeg) := R.2.2.2.2.2.2.2.2 _
  generalize hi : (24 * t) + g 12 t.toNatClampNeg = i at *
  have hx : g 2 i.toNatClampNeg = 0 ∨ g 2 i.toNatClampNeg = 1 ∨ g 2 i.toNatClampNeg = 2 ∨ g 2 i.toNatClampNeg = 3 ∨ g 2 i.toNatClampNeg = 4 ∨ g 2 i.toNatClampNeg = 5 ∨ g 2 i.toNatClampNeg = 6 ∨ g 2 i.toNatClampNeg = 7 ∨ g 2 i.toNatClampNeg = 8 ∨ g 2 i.toNatClampNeg = 9 ∨ g 2 i.toNatClampNeg = 10 ∨ g 2 i.toNatClampNeg = 11 ∨ g 2 i.toNatClampNeg = 12 ∨ g 2 i.toNatClampNeg = 13 ∨ g 2 i.toNatClampNeg = 14 ∨ g 2 i.toNatClampNeg = 15 ∨ g 2 i.toNatClampNeg = 16 ∨ g 2 i.toNatClampNeg = 17 ∨ g 2 i.toNatClampNeg = 18 ∨ g 2 i.toNatClampNeg = 19 := by
    simp only [← Int32.toInt_inj]
    have k0 : (0 : Int32).toInt = 0 := by decide
    have k1 : (1 : Int32).toInt = 1 := by decide
    have k2 : (2 : Int32).toInt = 2 := by decide
    have k3 : (3 : Int32).toInt = 3 := by decide
    have k4 : (4 : Int32).toInt = 4 := by decide
    have k5 : (5 : Int32).toInt = 5 := by decide
    have k6 : (6 : Int32).toInt = 6 := by decide
    have k7 : (7 : Int32).toInt = 7 := by decide
    have k8 : (8 : Int32).toInt = 8 := by decide
    have k9 : (9 : Int32).toInt = 9 := by decide
    have k10 : (10 : Int32).toInt = 10 := by decide
    have k11 : (11 : Int32).toInt = 11 := by decide
    have k12 : (12 : Int32).toInt = 12 := by decide
    have k13 : (13 : Int32).toInt = 13 := by decide
    have k14 : (14 : Int32).toInt = 14 := by decide
    have k15 : (15 : Int32).toInt = 15 := by decide
    have k16 : (16 : Int32).toInt = 16 := by decide
    have k17 : (17 : Int32).toInt = 17 := by decide
    have k18 : (18 : Int32).toInt = 18 := by decide
    have k19 : (19 : Int32).toInt = 19 := by decide
    unfold iv at ob
    omega
  rcases hx with o | o | o | o | o | o | o | o | o | o | o | o | o | o | o | o | o | o | o | o
  · exact op_0 R I ht S e18 p0 p1 p2 p3 o
  · exact op_1 R I ht S e18 p0 p1 p2 p3 o
  · exact op_2 R I ht S e18 p0 p1 p2 p3 o
  · exact op_3 R I ht S e18 p0 p1 p2 p3 o
  · exact op_4 R I ht S e18 p0 p1 p2 p3 o
  · exact op_5 R I ht S e18 p0 p1 p2 p3 o
  · exact op_6 R I ht S e18 p0 p1 p2 p3 o
  · exact op_7 R I ht S e18 p0 p1 p2 p3 o
  · exact op_8 R I ht S e18 p0 p1 p2 p3 o
  · exact op_9 R I ht S e18 p0 p1 p2 p3 o
  · exact op_10 R I ht S e18 p0 p1 p2 p3 o
  · exact op_11 R I ht S e18 p0 p1 p2 p3 o
  · exact op_12 R I ht S e18 p0 p1 p2 p3 o
  · exact op_13 R I ht S e18 p0 p1 p2 p3 o
  · exact op_14 R I ht S e18 m1 p0 p1 p2 p3 o
  · exact op_15 R I ht S e18 p0 p1 p2 p3 o
  · exact op_16 R I ht S e18 (kk o) p0 p1 p2 p3 o
  · exact op_17 R I ht S e18 p0 p1 p2 p3 o
  · exact op_18 R I ht S e18 p0 p1 p2 p3 o
  · exact op_19 R I ht S e18 p0 p1 p2 p3 o
/-- does the step ask for an INPUT that isn't known -/
def asksU (t : Int32) (g : ph_H) : Prop := g 15 t.toNatClampNeg < 0 ∧ g 2 ((24 * t) + g 12 t.toNatClampNeg).toNatClampNeg = 16 ∧ ¬ g 0 33 = 0 ∧ g 0 23 = g 0 34
theorem cg_true {t : Int32} {g : ph_H} (c : ¬ FX12_canGo t g = 0) : ¬ g 13 t.toNatClampNeg = 0 ∧ ¬ g 12 t.toNatClampNeg = 24 ∧ g 14 t.toNatClampNeg < 0 := by
  unfold FX12_canGo at c
  split at c
  · exact absurd rfl c
  · rename_i a
    split at c
    · exact absurd rfl c
    · rename_i b
      split at c
      · rename_i d
        exact ⟨a, b, d⟩
      · exact absurd rfl c
theorem mood_of {h g : ph_H} {t : Int32} (R : RC h g) (ht : iv 0 3 t) (c : ¬ FX12_canGo t g = 0) : (h 19 t.toNatClampNeg = 1 ∧ g 15 t.toNatClampNeg < 0) ∨ (h 19 t.toNatClampNeg = 3 ∧ ¬ g 15 t.toNatClampNeg < 0 ∧ g 15 t.toNatClampNeg = h 20 t.toNatClampNeg ∧ iv 0 11 (g 15 t.toNatClampNeg)) := by
  obtain ⟨c1, c2, c3⟩ := cg_true c
  rcases R.2.2.1 _ (t_lt ht) with ⟨m, st, as, wk⟩ | ⟨m, st, as, wk⟩ | ⟨m, st, as, q, wk⟩ | ⟨m, st, as, wk, q⟩
  · exact absurd st c1
  · exact Or.inl ⟨m, by rw [wk]; decide⟩
  · rw [as] at c3
    unfold iv at q
    exact absurd c3 (nn_t q.1)
  · refine Or.inr ⟨m, ?_, wk, by rw [wk]; exact q⟩
    unfold iv at q
    rw [wk]
    exact nn_t q.1
/-- the step, not asking -/
theorem go_eq {z : zT} {h g : ph_H} {t : Int32} (R : RC h g) (I : IM z g) (ht : iv 0 3 t) (c : ¬ FX12_canGo t g = 0) (nf : g 0 25 = 0) (na : ¬ asksU t g) : (FX3_go_s t h).1 = FX12_step t g 0 25 ∧ RC (FX3_go_s t h).2 (FX12_step t g) ∧ EF (FX3_go_s t h).2 (FX12_step t g) ∧ FL (FX12_step t g) := by
  have c' : ¬ FX3_canGo_s t h = 0 := by rw [canGo_eq R I ht]; exact c
  obtain ⟨c1, c2, c3⟩ := cg_true c
  have e18 := (stands R I ht c2).1
  have Rh : RC (hs (hs (hs (hs (hs h 15 14 (-2)) 15 15 (-2)) 15 16 0) 15 17 0) 15 13 (h 18 t.toNatClampNeg + 1)) (hs (hs (hs (hs (hs (hs g 0 27 (g 12 t.toNatClampNeg)) 0 28 (g 2 ((24 * t) + g 12 t.toNatClampNeg).toNatClampNeg)) 0 29 (-2)) 0 30 (-2)) 0 31 0) 0 32 (-1)) := (((((((((((R.cs (by decide)).cs (by decide)).cs (by decide)).cs (by decide)).cs (by decide)).rs rfl).rs rfl).rs rfl).rs rfl).rs rfl).rs rfl)
  have I0 : IM z (hs (hs (hs (hs (hs (hs g 0 27 (g 12 t.toNatClampNeg)) 0 28 (g 2 ((24 * t) + g 12 t.toNatClampNeg).toNatClampNeg)) 0 29 (-2)) 0 30 (-2)) 0 31 0) 0 32 (-1)) := IMs (IMs (IMs (IMs (IMs (IMs I (k := 0) (i := 27) (iv_any _) rfl) (k := 0) (i := 28) (iv_any _) rfl) (k := 0) (i := 29) (iv_any _) rfl) (k := 0) (i := 30) (iv_any _) rfl) (k := 0) (i := 31) (iv_any _) rfl) (k := 0) (i := 32) (iv_any _) rfl
  unfold FX3_go_s FX3_go_s_59
  rw [if_neg c']
  rcases mood_of R ht c with ⟨m, w⟩ | ⟨m, w, wq, q⟩
  · rw [if_neg (by rw [m]; decide)]
    have st : FX12_step t g = FX12_step_148 t ((24 * t) + g 12 t.toNatClampNeg) (hs (hs (hs (hs (hs (hs g 0 27 (g 12 t.toNatClampNeg)) 0 28 (g 2 ((24 * t) + g 12 t.toNatClampNeg).toNatClampNeg)) 0 29 (-2)) 0 30 (-2)) 0 31 0) 0 32 (-1)) := by
      unfold FX12_step
      rw [if_pos w]
      by_cases o : g 2 ((24 * t) + g 12 t.toNatClampNeg).toNatClampNeg = 16
      · rw [if_pos o]
        by_cases k : g 0 33 = 0
        · rw [if_pos k]
        · rw [if_neg k, if_neg (fun e => na ⟨w, o, k, e⟩)]
      · rw [if_neg o]
    have S : S0c t (hs (hs (hs (hs (hs h 15 14 (-2)) 15 15 (-2)) 15 16 0) 15 17 0) 15 13 (h 18 t.toNatClampNeg + 1)) (hs (hs (hs (hs (hs (hs g 0 27 (g 12 t.toNatClampNeg)) 0 28 (g 2 ((24 * t) + g 12 t.toNatClampNeg).toNatClampNeg)) 0 29 (-2)) 0 30 (-2)) 0 31 0) 0 32 (-1)) := by simp [S0c, hs_get]
    have P := op_all (z := z) (t := t) Rh I0 ht S (by simpa [hs_get] using c2) (by simpa [hs_get] using m) (fun o k e => by
      simp [hs_get] at o k e
      exact na ⟨w, o, k, e⟩)
    have e : (24 * t) + (hs (hs (hs (hs (hs (hs g 0 27 (g 12 t.toNatClampNeg)) 0 28 (g 2 ((24 * t) + g 12 t.toNatClampNeg).toNatClampNeg)) 0 29 (-2)) 0 30 (-2)) 0 31 0) 0 32 (-1)) 12 t.toNatClampNeg = (24 * t) + g 12 t.toNatClampNeg := by simp [hs_get]
    rw [e] at P
    rw [st]
    unfold FX12_step_148 FX12_step_154
    unfold SIM at P
    obtain ⟨pp1, pp2, pp3, pp4⟩ := P
    refine ⟨?_, (pp2.rs rfl).rs rfl, ?_, ?_⟩
    · rw [pp1]
      simp [hs_get]
    · simpa [EF, hs_get] using pp3
    · simpa [FL, PLp, hs_get] using pp4
  · rw [if_pos m]
    have lv := (R.2.2.2.2.2.2.2.1 _ (t_lt ht)).2
    have st : FX12_step t g = FX12_step_154 t (FX12_goTo t (g 12 t.toNatClampNeg + 1) (hs (hs (hs (hs (hs (hs (hs (hs (hs (hs g 0 27 (g 12 t.toNatClampNeg)) 0 28 (g 2 ((24 * t) + g 12 t.toNatClampNeg).toNatClampNeg)) 0 29 (-2)) 0 30 (-2)) 0 31 0) 0 32 (-1)) 17 (g 15 t.toNatClampNeg).toNatClampNeg t) 0 31 1) 0 32 (g 15 t.toNatClampNeg)) 15 t.toNatClampNeg (-1))) := by
      unfold FX12_step FX12_step_110
      rw [if_neg w]
    rw [st]
    unfold FX3_rise_s FX3_own_s
    have e20 : (hs (hs (hs (hs (hs h 15 14 (-2)) 15 15 (-2)) 15 16 0) 15 17 0) 15 13 (h 18 t.toNatClampNeg + 1)) 20 t.toNatClampNeg = g 15 t.toNatClampNeg := by
      rw [wq]
      simp [hs_get]
    rw [e20]
    have R1 := (Rh.rise I0 (t_lt ht) (by simpa [hs_get] using m)).own (x := (g 15 t.toNatClampNeg).toNatClampNeg) (c := t) (r := t) (Or.inr ⟨rfl, ht⟩)
    have R2 := (((R1.cs (i := 16) (v := 1) (by decide)).cs (i := 17) (v := g 15 t.toNatClampNeg) (by decide)).rs (i := 31) (v := 1) rfl).rs (i := 32) (v := g 15 t.toNatClampNeg) rfl
    rw [hs_comm _ 15 _ _ 17 _ _ (Or.inl (by decide)), hs_comm _ 15 _ _ 0 _ _ (Or.inl (by decide)), hs_comm _ 15 _ _ 0 _ _ (Or.inl (by decide))] at R2
    have F := fin_go (t := t) (a := g 12 t.toNatClampNeg + 1) R2 (by simp [EF, hs_get]) (by simpa [hs_get] using nf) (by simp [PLp, hs_get]) (by simp [hs_get, e18])
    unfold SIM at F
    obtain ⟨pp1, pp2, pp3, pp4⟩ := F
    unfold FX12_step_154
    refine ⟨?_, (pp2.rs rfl).rs rfl, ?_, ?_⟩
    · rw [pp1]
      simp [hs_get]
    · simpa [EF, hs_get] using pp3
    · simpa [FL, PLp, hs_get] using pp4
/-- the step that asks for an INPUT that isn't known -/
theorem go_asks {z : zT} {h g : ph_H} {t : Int32} (R : RC h g) (I : IM z g) (ht : iv 0 3 t) (c : ¬ FX12_canGo t g = 0) (a : asksU t g) : (FX3_go_s t h).1 = 7 ∧ FX12_step t g = hs (hs (hs (hs (hs (hs (hs g 0 27 (g 12 t.toNatClampNeg)) 0 28 (g 2 ((24 * t) + g 12 t.toNatClampNeg).toNatClampNeg)) 0 29 (-2)) 0 30 (-2)) 0 31 0) 0 32 (-1)) 0 35 1 := by
  have c' : ¬ FX3_canGo_s t h = 0 := by rw [canGo_eq R I ht]; exact c
  obtain ⟨c1, c2, c3⟩ := cg_true c
  obtain ⟨a1, a2, a3, a4⟩ := a
  obtain ⟨p0, p1, p2, p3⟩ := parts R I ht c2
  refine ⟨?_, ?_⟩
  · unfold FX3_go_s
    rw [if_neg c']
    rcases mood_of R ht c with ⟨m, w⟩ | ⟨m, w, wq, q⟩
    · rw [if_neg (by rw [m]; decide)]
      have e : ∀ v, FX5_firstPart_t t v (hs (hs (hs (hs (hs h 15 14 (-2)) 15 15 (-2)) 15 16 0) 15 17 0) 15 13 (h 18 t.toNatClampNeg + 1)) = FX5_firstPart_t t v h := fun v => rfl
      have e1 : (hs (hs (hs (hs (hs h 15 14 (-2)) 15 15 (-2)) 15 16 0) 15 17 0) 15 13 (h 18 t.toNatClampNeg + 1)) 18 t.toNatClampNeg = h 18 t.toNatClampNeg := by simp [hs_get]
      have e2 : ∀ i, (hs (hs (hs (hs (hs h 15 14 (-2)) 15 15 (-2)) 15 16 0) 15 17 0) 15 13 (h 18 t.toNatClampNeg + 1)) 10 i = h 10 i := fun i => by simp [hs_get]
      rw [pf_16 (h := (hs (hs (hs (hs (hs h 15 14 (-2)) 15 15 (-2)) 15 16 0) 15 17 0) 15 13 (h 18 t.toNatClampNeg + 1))) (a := g 3 ((24 * t) + g 12 t.toNatClampNeg).toNatClampNeg) (b := g 4 ((24 * t) + g 12 t.toNatClampNeg).toNatClampNeg) (c := g 5 ((24 * t) + g 12 t.toNatClampNeg).toNatClampNeg) (by rw [e1, e, e2, p0, a2]) (by rw [e1, e, e2, p1]) (by rw [e1, e, e2, p2]) (by rw [e1, e, e2, p3])]
      unfold FX3_takeInput_s
      obtain ⟨i1, i2, i3, i4⟩ := R.2.2.2.2.1
      have f1 : (hs (hs (hs (hs (hs h 15 14 (-2)) 15 15 (-2)) 15 16 0) 15 17 0) 15 13 (h 18 t.toNatClampNeg + 1)) 15 11 = kn g := by rw [← i2]; simp [hs_get]
      have f2 : (hs (hs (hs (hs (hs h 15 14 (-2)) 15 15 (-2)) 15 16 0) 15 17 0) 15 13 (h 18 t.toNatClampNeg + 1)) 15 12 = g 0 23 := by rw [← i1]; simp [hs_get]
      have f3 : kn g ≤ g 0 23 := by
        unfold kn
        rw [if_neg a3, a4]
        rw [Int32.le_iff_toInt_le]
        omega
      rw [f1, f2, if_pos f3]
      rfl
    · exact absurd a1 w
  · unfold FX12_step
    rw [if_pos a1, if_pos a2, if_neg a3, if_pos a4]
theorem go_no {z : zT} {h g : ph_H} {t : Int32} (R : RC h g) (I : IM z g) (ht : iv 0 3 t) (c : FX12_canGo t g = 0) : FX3_go_s t h = (-1, h) := by
  unfold FX3_go_s
  rw [canGo_eq R I ht, if_pos c]
end MG_48_x07A8
section MG_48_x08F0
/-! FRAMES: what a method doesn't write -/
def EQ (W : Nat → Nat → Bool) (h0 h : ph_H) : Prop := ∀ k i, W k i = true → h k i = h0 k i
theorem EQ_r {W : Nat → Nat → Bool} (h : ph_H) : EQ W h h := fun _ _ _ => rfl
theorem EQ_s {W : Nat → Nat → Bool} {h0 h : ph_H} {k i : Nat} {v : Int32} (q : W k i = false) (e : EQ W h0 h) : EQ W h0 (hs h k i v) := fun k' i' w => by
  rw [hs_o (fun c => by rw [c.1, c.2, q] at w; exact absurd w (by decide))]
  exact e k' i' w
theorem EQ_c {W : Nat → Nat → Bool} {h0 h : ph_H} {k0 k1 : Nat} {sp dp m : Int32} (q : ∀ i, W k1 i = false) (e : EQ W h0 h) : EQ W h0 (hc h k0 k1 sp dp m) := fun k' i' w => by
  rw [hc_o (fun c => by rw [c, q] at w; exact absurd w (by decide))]
  exact e k' i' w
theorem EQ_if {W : Nat → Nat → Bool} {h0 a b : ph_H} {c : Prop} [Decidable c] (x : EQ W h0 a) (y : EQ W h0 b) : EQ W h0 (if c then a else b) := by
  split
  · exact x
  · exact y
theorem EQ2_if {W : Nat → Nat → Bool} {h0 : ph_H} {a b : Int32 × ph_H} {c : Prop} [Decidable c] (x : EQ W h0 a.2) (y : EQ W h0 b.2) : EQ W h0 (if c then a else b).2 := by
  split
  · exact x
  · exact y
def pS (k i : Nat) : Bool := match k with
  | 0 => !(i == 18 || (23 ≤ i && i ≤ 32) || i == 35)
  | 10 => false
  | 11 => false
  | 12 => false
  | 13 => false
  | 14 => false
  | 15 => false
  | 16 => false
  | 17 => false
  | 18 => false
  | 19 => false
  | _ => true
theorem frS_FX12_goTo_19 {h0 : ph_H} (s0 : Int32) (h : ph_H) (e : EQ pS h0 h) : EQ pS h0 (FX12_goTo_19 s0 h) := (EQ_s rfl e)
theorem frS_FX12_goTo {h0 : ph_H} (a0 : Int32) (a1 : Int32) (h : ph_H) (e : EQ pS h0 h) : EQ pS h0 (FX12_goTo a0 a1 h) := (EQ_if (frS_FX12_goTo_19 _  _ e) (EQ_if (EQ_s rfl e) (frS_FX12_goTo_19 _  _ e)))
theorem frS_FX12_set {h0 : ph_H} (a0 : Int32) (a1 : Int32) (a2 : Int32) (h : ph_H) (e : EQ pS h0 h) : EQ pS h0 (FX12_set a0 a1 a2 h) := (EQ_s rfl (EQ_s rfl e))
theorem frS_FX12_newThing_29 {h0 : ph_H}  : ∀ (q : Nat) (y0 : Int32) (y1 : Int32) (h : ph_H), EQ pS h0 h → EQ pS h0 (FX12_newThing_29  q y0 y1 h).2 := by
  intro q
  induction q with
  | zero =>
    intro y0 y1 h e
    exact e
  | succ q ih =>
    intro y0 y1 h e
    exact (EQ2_if (EQ_s rfl e) (ih _ _ _ (EQ_s rfl e)))
theorem frS_FX12_newThing {h0 : ph_H} (a0 : Int32) (a1 : Int32) (h : ph_H) (e : EQ pS h0 h) : EQ pS h0 (FX12_newThing a0 a1 h).2 := (frS_FX12_newThing_29   _ _ _ _ (EQ_s rfl (EQ_s rfl (EQ_s rfl e))))
theorem frS_FX12_work_88 {h0 : ph_H}  (h : ph_H) (e : EQ pS h0 h) : EQ pS h0 (FX12_work_88 h) := e
theorem frS_FX12_work_111 {h0 : ph_H}  (h : ph_H) (e : EQ pS h0 h) : EQ pS h0 (FX12_work_111 h) := e
theorem frS_FX12_work_134 {h0 : ph_H}  (h : ph_H) (e : EQ pS h0 h) : EQ pS h0 (FX12_work_134 h) := e
theorem frS_FX12_work_155 {h0 : ph_H}  (h : ph_H) (e : EQ pS h0 h) : EQ pS h0 (FX12_work_155 h) := e
theorem frS_FX12_work_152 {h0 : ph_H} (s0 : Int32) (s1 : Int32) (s2 : Int32) (h : ph_H) (e : EQ pS h0 h) : EQ pS h0 (FX12_work_152 s0 s1 s2 h) := (frS_FX12_work_155   _ (frS_FX12_set _ _ _  _ e))
theorem frS_FX12_work_212 {h0 : ph_H}  (h : ph_H) (e : EQ pS h0 h) : EQ pS h0 (FX12_work_212 h) := e
theorem frS_FX12_work_435 {h0 : ph_H} (L391 : Int32 → Int32 → ph_H → ph_H) (x3 : Int32) (x6 : Int32) (hL391 : ∀ (y0 : Int32) (y1 : Int32) (h : ph_H), EQ pS h0 h → EQ pS h0 (L391 y0 y1 h)) (h : ph_H) (e : EQ pS h0 h) : EQ pS h0 (FX12_work_435 L391 x3 x6 h) := (hL391 _ _ _ e)
theorem frS_FX12_work_391 {h0 : ph_H}  : ∀ (q : Nat) (y0 : Int32) (y1 : Int32) (h : ph_H), EQ pS h0 h → EQ pS h0 (FX12_work_391  q y0 y1 h) := by
  intro q
  induction q with
  | zero =>
    intro y0 y1 h e
    exact e
  | succ q ih =>
    intro y0 y1 h e
    exact (EQ_if e (EQ_if (frS_FX12_work_435 _ _ _ ih _ (EQ_s rfl (EQ_s rfl e))) (frS_FX12_work_435 _ _ _ ih _ e)))
theorem frS_FX12_work {h0 : ph_H} (a0 : Int32) (a1 : Int32) (a2 : Int32) (a3 : Int32) (a4 : Int32) (h : ph_H) (e : EQ pS h0 h) : EQ pS h0 (FX12_work a0 a1 a2 a3 a4 h) := (EQ_if (frS_FX12_work_88   _ (frS_FX12_set _ _ _  _ e)) (EQ_if (frS_FX12_work_111   _ (frS_FX12_set _ _ _  _ e)) (EQ_if (frS_FX12_work_134   _ (frS_FX12_set _ _ _  _ e)) (EQ_if e (EQ_if e (EQ_if (frS_FX12_work_152 _ _ _  _ (frS_FX12_newThing _ _  _ e)) (EQ_if (frS_FX12_work_212   _ (frS_FX12_set _ _ _  _ (EQ_s rfl e))) (EQ_if (EQ_s rfl (EQ_s rfl e)) (EQ_if e (EQ_if (EQ_s rfl (EQ_s rfl (EQ_s rfl e))) (EQ_if (EQ_s rfl (EQ_s rfl (EQ_s rfl e))) (EQ_if (EQ_s rfl (EQ_s rfl (EQ_s rfl (EQ_s rfl e)))) (EQ_if (frS_FX12_work_391   _ _ _ _ (EQ_s rfl (EQ_s rfl e))) e)))))))))))))
theorem frS_FX12_workPlain_116 {h0 : ph_H}  (h : ph_H) (e : EQ pS h0 h) : EQ pS h0 (FX12_workPlain_116 h) := e
theorem frS_FX12_workPlain_153 {h0 : ph_H}  (h : ph_H) (e : EQ pS h0 h) : EQ pS h0 (FX12_workPlain_153 h) := e
theorem frS_FX12_workPlain_191 {h0 : ph_H}  (h : ph_H) (e : EQ pS h0 h) : EQ pS h0 (FX12_workPlain_191 h) := e
theorem frS_FX12_workPlain_222 {h0 : ph_H}  (h : ph_H) (e : EQ pS h0 h) : EQ pS h0 (FX12_workPlain_222 h) := e
theorem frS_FX12_workPlain_219 {h0 : ph_H} (s0 : Int32) (s1 : Int32) (s2 : Int32) (h : ph_H) (e : EQ pS h0 h) : EQ pS h0 (FX12_workPlain_219 s0 s1 s2 h) := (frS_FX12_workPlain_222   _ (frS_FX12_set _ _ _  _ e))
theorem frS_FX12_workPlain_206 {h0 : ph_H} (x3 : Int32) (s0 : Int32) (h : ph_H) (e : EQ pS h0 h) : EQ pS h0 (FX12_workPlain_206 x3 s0 h) := (frS_FX12_workPlain_219 _ _ _  _ (frS_FX12_newThing _ _  _ e))
theorem frS_FX12_workPlain_259 {h0 : ph_H}  (h : ph_H) (e : EQ pS h0 h) : EQ pS h0 (FX12_workPlain_259 h) := (EQ_s rfl e)
theorem frS_FX12_workPlain_256 {h0 : ph_H} (s0 : Int32) (s1 : Int32) (s2 : Int32) (h : ph_H) (e : EQ pS h0 h) : EQ pS h0 (FX12_workPlain_256 s0 s1 s2 h) := (frS_FX12_workPlain_259   _ (frS_FX12_set _ _ _  _ e))
theorem frS_FX12_workPlain {h0 : ph_H} (a0 : Int32) (a1 : Int32) (a2 : Int32) (a3 : Int32) (h : ph_H) (e : EQ pS h0 h) : EQ pS h0 (FX12_workPlain a0 a1 a2 a3 h) := (EQ_if (frS_FX12_workPlain_116   _ (frS_FX12_set _ _ _  _ e)) (EQ_if (frS_FX12_workPlain_153   _ (frS_FX12_set _ _ _  _ (EQ_s rfl e))) (EQ_if (frS_FX12_workPlain_191   _ (frS_FX12_set _ _ _  _ (EQ_s rfl e))) (EQ_if e (EQ_if e (EQ_if e (EQ_if e (EQ_if e (EQ_if e (EQ_if e (EQ_if e (EQ_if (EQ_if (frS_FX12_workPlain_206 _ _  _ e) (frS_FX12_workPlain_206 _ _  _ e)) (EQ_if e (EQ_if e (EQ_if e (EQ_if e (EQ_if (EQ_if (frS_FX12_workPlain_256 _ _ _  _ e) (frS_FX12_workPlain_256 _ _ _  _ e)) (EQ_if (EQ_s rfl (EQ_s rfl (EQ_s rfl e))) e))))))))))))))))))
theorem frS_FX12_instruct_251 {h0 : ph_H} (s0 : Int32) (s1 : Int32) (h : ph_H) (e : EQ pS h0 h) : EQ pS h0 (FX12_instruct_251 s0 s1 h) := (frS_FX12_goTo _ _  _ e)
theorem frS_FX12_instruct_204 {h0 : ph_H} (x1 : Int32) (x2 : Int32) (x6 : Int32) (x7 : Int32) (h : ph_H) (e : EQ pS h0 h) : EQ pS h0 (FX12_instruct_204 x1 x2 x6 x7 h) := (EQ_if e (EQ_if (frS_FX12_instruct_251 _ _  _ e) (EQ_if (frS_FX12_instruct_251 _ _  _ e) (frS_FX12_instruct_251 _ _  _ e))))
theorem frS_FX12_instruct_195 {h0 : ph_H} (x1 : Int32) (x2 : Int32) (x3 : Int32) (x4 : Int32) (x6 : Int32) (x7 : Int32) (h : ph_H) (e : EQ pS h0 h) : EQ pS h0 (FX12_instruct_195 x1 x2 x3 x4 x6 x7 h) := (frS_FX12_instruct_204 _ _ _ _  _ (frS_FX12_workPlain _ _ _ _  _ e))
theorem frS_FX12_instruct_177 {h0 : ph_H} (x1 : Int32) (x2 : Int32) (x3 : Int32) (x4 : Int32) (x5 : Int32) (x6 : Int32) (s0 : Int32) (h : ph_H) (e : EQ pS h0 h) : EQ pS h0 (FX12_instruct_177 x1 x2 x3 x4 x5 x6 s0 h) := (frS_FX12_instruct_195 _ _ _ _ _ _  _ (frS_FX12_work _ _ _ _ _  _ e))
theorem frS_FX12_instruct_149 {h0 : ph_H} (x1 : Int32) (x2 : Int32) (x3 : Int32) (x4 : Int32) (x5 : Int32) (s0 : Int32) (h : ph_H) (e : EQ pS h0 h) : EQ pS h0 (FX12_instruct_149 x1 x2 x3 x4 x5 s0 h) := (EQ_if (frS_FX12_instruct_177 _ _ _ _ _ _ _  _ e) (frS_FX12_instruct_177 _ _ _ _ _ _ _  _ e))
theorem frS_FX12_instruct_144 {h0 : ph_H} (x1 : Int32) (x2 : Int32) (x3 : Int32) (x4 : Int32) (x5 : Int32) (h : ph_H) (e : EQ pS h0 h) : EQ pS h0 (FX12_instruct_144 x1 x2 x3 x4 x5 h) := (frS_FX12_instruct_149 _ _ _ _ _ _  _ e)
theorem frS_FX12_instruct_148 {h0 : ph_H} (x1 : Int32) (x2 : Int32) (x3 : Int32) (x4 : Int32) (x5 : Int32) (h : ph_H) (e : EQ pS h0 h) : EQ pS h0 (FX12_instruct_148 x1 x2 x3 x4 x5 h) := (frS_FX12_instruct_149 _ _ _ _ _ _  _ e)
theorem frS_FX12_instruct_102 {h0 : ph_H} (x1 : Int32) (x2 : Int32) (x3 : Int32) (x4 : Int32) (x5 : Int32) (s0 : Int32) (h : ph_H) (e : EQ pS h0 h) : EQ pS h0 (FX12_instruct_102 x1 x2 x3 x4 x5 s0 h) := (EQ_if (EQ_if (frS_FX12_instruct_144 _ _ _ _ _  _ (EQ_s rfl e)) (EQ_if (EQ_if (frS_FX12_instruct_144 _ _ _ _ _  _ (EQ_s rfl e)) (frS_FX12_instruct_148 _ _ _ _ _  _ (EQ_s rfl e))) (frS_FX12_instruct_148 _ _ _ _ _  _ (EQ_s rfl e)))) (EQ_s rfl e))
theorem frS_FX12_instruct_98 {h0 : ph_H} (x1 : Int32) (x2 : Int32) (x3 : Int32) (x4 : Int32) (x5 : Int32) (h : ph_H) (e : EQ pS h0 h) : EQ pS h0 (FX12_instruct_98 x1 x2 x3 x4 x5 h) := (frS_FX12_instruct_102 _ _ _ _ _ _  _ e)
theorem frS_FX12_instruct {h0 : ph_H} (a0 : Int32) (a1 : Int32) (h : ph_H) (e : EQ pS h0 h) : EQ pS h0 (FX12_instruct a0 a1 h) := (EQ_if (EQ_if (frS_FX12_instruct_98 _ _ _ _ _  _ (EQ_s rfl e)) (frS_FX12_instruct_102 _ _ _ _ _ _  _ (EQ_s rfl e))) (frS_FX12_instruct_98 _ _ _ _ _  _ (EQ_s rfl e)))
theorem frS_FX12_step_154 {h0 : ph_H} (x1 : Int32) (h : ph_H) (e : EQ pS h0 h) : EQ pS h0 (FX12_step_154 x1 h) := (EQ_s rfl (EQ_s rfl e))
theorem frS_FX12_step_110 {h0 : ph_H} (x1 : Int32) (h : ph_H) (e : EQ pS h0 h) : EQ pS h0 (FX12_step_110 x1 h) := (frS_FX12_step_154 _  _ e)
theorem frS_FX12_step_148 {h0 : ph_H} (x1 : Int32) (x2 : Int32) (h : ph_H) (e : EQ pS h0 h) : EQ pS h0 (FX12_step_148 x1 x2 h) := (frS_FX12_step_154 _  _ (frS_FX12_instruct _ _  _ e))
theorem frS_FX12_step {h0 : ph_H} (a0 : Int32) (h : ph_H) (e : EQ pS h0 h) : EQ pS h0 (FX12_step a0 h) := (EQ_if (EQ_if (EQ_if (frS_FX12_step_148 _ _  _ (EQ_s rfl (EQ_s rfl (EQ_s rfl (EQ_s rfl (EQ_s rfl (EQ_s rfl e))))))) (EQ_if (EQ_s rfl (EQ_s rfl (EQ_s rfl (EQ_s rfl (EQ_s rfl (EQ_s rfl (EQ_s rfl e))))))) (frS_FX12_step_148 _ _  _ (EQ_s rfl (EQ_s rfl (EQ_s rfl (EQ_s rfl (EQ_s rfl (EQ_s rfl e))))))))) (frS_FX12_step_148 _ _  _ (EQ_s rfl (EQ_s rfl (EQ_s rfl (EQ_s rfl (EQ_s rfl (EQ_s rfl e)))))))) (frS_FX12_step_110 _  _ (frS_FX12_goTo _ _  _ (EQ_s rfl (EQ_s rfl (EQ_s rfl (EQ_s rfl (EQ_s rfl (EQ_s rfl (EQ_s rfl (EQ_s rfl (EQ_s rfl (EQ_s rfl e)))))))))))))
def pK (k i : Nat) : Bool := match k with
  | 20 => false
  | 21 => false
  | 22 => false
  | 23 => false
  | 24 => false
  | 25 => false
  | 26 => false
  | 27 => false
  | 28 => false
  | _ => true
theorem frK_FX12_keep_171 {h0 : ph_H}  : ∀ (q : Nat) (y0 : Int32) (y1 : Int32) (h : ph_H), EQ pK h0 h → EQ pK h0 (FX12_keep_171  q y0 y1 h) := by
  intro q
  induction q with
  | zero =>
    intro y0 y1 h e
    exact e
  | succ q ih =>
    intro y0 y1 h e
    exact (EQ_if e (ih _ _ _ (EQ_s rfl e)))
theorem frK_FX12_keep_104 {h0 : ph_H}  : ∀ (q : Nat) (y0 : Int32) (y1 : Int32) (h : ph_H), EQ pK h0 h → EQ pK h0 (FX12_keep_104  q y0 y1 h) := by
  intro q
  induction q with
  | zero =>
    intro y0 y1 h e
    exact e
  | succ q ih =>
    intro y0 y1 h e
    exact (EQ_if (frK_FX12_keep_171   _ _ _ _ e) (ih _ _ _ (EQ_s rfl (EQ_s rfl (EQ_s rfl e)))))
theorem frK_FX12_keep_50 {h0 : ph_H}  : ∀ (q : Nat) (y0 : Int32) (y1 : Int32) (h : ph_H), EQ pK h0 h → EQ pK h0 (FX12_keep_50  q y0 y1 h) := by
  intro q
  induction q with
  | zero =>
    intro y0 y1 h e
    exact e
  | succ q ih =>
    intro y0 y1 h e
    exact (EQ_if (frK_FX12_keep_104   _ _ _ _ (EQ_s rfl e)) (ih _ _ _ (EQ_s rfl (EQ_s rfl e))))
theorem frK_FX12_keep_2 {h0 : ph_H}  : ∀ (q : Nat) (y0 : Int32) (y1 : Int32) (h : ph_H), EQ pK h0 h → EQ pK h0 (FX12_keep_2  q y0 y1 h) := by
  intro q
  induction q with
  | zero =>
    intro y0 y1 h e
    exact e
  | succ q ih =>
    intro y0 y1 h e
    exact (EQ_if (frK_FX12_keep_50   _ _ _ _ e) (ih _ _ _ (EQ_s rfl (EQ_s rfl e))))
theorem frK_FX12_keep {h0 : ph_H} (a0 : Int32) (h : ph_H) (e : EQ pK h0 h) : EQ pK h0 (FX12_keep a0 h) := (frK_FX12_keep_2   _ _ _ _ e)
def pK5 (k i : Nat) : Bool := match k with
  | 22 => false
  | 23 => false
  | 24 => false
  | 25 => false
  | 26 => false
  | 27 => false
  | 28 => false
  | _ => true
theorem fr5_FX12_keep_171 {h0 : ph_H}  : ∀ (q : Nat) (y0 : Int32) (y1 : Int32) (h : ph_H), EQ pK5 h0 h → EQ pK5 h0 (FX12_keep_171  q y0 y1 h) := by
  intro q
  induction q with
  | zero =>
    intro y0 y1 h e
    exact e
  | succ q ih =>
    intro y0 y1 h e
    exact (EQ_if e (ih _ _ _ (EQ_s rfl e)))
theorem fr5_FX12_keep_104 {h0 : ph_H}  : ∀ (q : Nat) (y0 : Int32) (y1 : Int32) (h : ph_H), EQ pK5 h0 h → EQ pK5 h0 (FX12_keep_104  q y0 y1 h) := by
  intro q
  induction q with
  | zero =>
    intro y0 y1 h e
    exact e
  | succ q ih =>
    intro y0 y1 h e
    exact (EQ_if (fr5_FX12_keep_171   _ _ _ _ e) (ih _ _ _ (EQ_s rfl (EQ_s rfl (EQ_s rfl e)))))
theorem fr5_FX12_keep_50 {h0 : ph_H}  : ∀ (q : Nat) (y0 : Int32) (y1 : Int32) (h : ph_H), EQ pK5 h0 h → EQ pK5 h0 (FX12_keep_50  q y0 y1 h) := by
  intro q
  induction q with
  | zero =>
    intro y0 y1 h e
    exact e
  | succ q ih =>
    intro y0 y1 h e
    exact (EQ_if (fr5_FX12_keep_104   _ _ _ _ (EQ_s rfl e)) (ih _ _ _ (EQ_s rfl (EQ_s rfl e))))
def pI (k i : Nat) : Bool := match k with
  | 0 => !(i == 18 || i == 23 || i == 25 || (29 ≤ i && i ≤ 32))
  | 10 => false
  | 11 => false
  | 12 => false
  | 13 => false
  | 14 => false
  | 15 => false
  | 16 => false
  | 17 => false
  | 18 => false
  | 19 => false
  | _ => true
theorem frI_FX12_goTo_19 {h0 : ph_H} (s0 : Int32) (h : ph_H) (e : EQ pI h0 h) : EQ pI h0 (FX12_goTo_19 s0 h) := (EQ_s rfl e)
theorem frI_FX12_goTo {h0 : ph_H} (a0 : Int32) (a1 : Int32) (h : ph_H) (e : EQ pI h0 h) : EQ pI h0 (FX12_goTo a0 a1 h) := (EQ_if (frI_FX12_goTo_19 _  _ e) (EQ_if (EQ_s rfl e) (frI_FX12_goTo_19 _  _ e)))
theorem frI_FX12_set {h0 : ph_H} (a0 : Int32) (a1 : Int32) (a2 : Int32) (h : ph_H) (e : EQ pI h0 h) : EQ pI h0 (FX12_set a0 a1 a2 h) := (EQ_s rfl (EQ_s rfl e))
theorem frI_FX12_newThing_29 {h0 : ph_H}  : ∀ (q : Nat) (y0 : Int32) (y1 : Int32) (h : ph_H), EQ pI h0 h → EQ pI h0 (FX12_newThing_29  q y0 y1 h).2 := by
  intro q
  induction q with
  | zero =>
    intro y0 y1 h e
    exact e
  | succ q ih =>
    intro y0 y1 h e
    exact (EQ2_if (EQ_s rfl e) (ih _ _ _ (EQ_s rfl e)))
theorem frI_FX12_newThing {h0 : ph_H} (a0 : Int32) (a1 : Int32) (h : ph_H) (e : EQ pI h0 h) : EQ pI h0 (FX12_newThing a0 a1 h).2 := (frI_FX12_newThing_29   _ _ _ _ (EQ_s rfl (EQ_s rfl (EQ_s rfl e))))
theorem frI_FX12_work_88 {h0 : ph_H}  (h : ph_H) (e : EQ pI h0 h) : EQ pI h0 (FX12_work_88 h) := e
theorem frI_FX12_work_111 {h0 : ph_H}  (h : ph_H) (e : EQ pI h0 h) : EQ pI h0 (FX12_work_111 h) := e
theorem frI_FX12_work_134 {h0 : ph_H}  (h : ph_H) (e : EQ pI h0 h) : EQ pI h0 (FX12_work_134 h) := e
theorem frI_FX12_work_155 {h0 : ph_H}  (h : ph_H) (e : EQ pI h0 h) : EQ pI h0 (FX12_work_155 h) := e
theorem frI_FX12_work_152 {h0 : ph_H} (s0 : Int32) (s1 : Int32) (s2 : Int32) (h : ph_H) (e : EQ pI h0 h) : EQ pI h0 (FX12_work_152 s0 s1 s2 h) := (frI_FX12_work_155   _ (frI_FX12_set _ _ _  _ e))
theorem frI_FX12_work_212 {h0 : ph_H}  (h : ph_H) (e : EQ pI h0 h) : EQ pI h0 (FX12_work_212 h) := e
theorem frI_FX12_work_435 {h0 : ph_H} (L391 : Int32 → Int32 → ph_H → ph_H) (x3 : Int32) (x6 : Int32) (hL391 : ∀ (y0 : Int32) (y1 : Int32) (h : ph_H), EQ pI h0 h → EQ pI h0 (L391 y0 y1 h)) (h : ph_H) (e : EQ pI h0 h) : EQ pI h0 (FX12_work_435 L391 x3 x6 h) := (hL391 _ _ _ e)
theorem frI_FX12_work_391 {h0 : ph_H}  : ∀ (q : Nat) (y0 : Int32) (y1 : Int32) (h : ph_H), EQ pI h0 h → EQ pI h0 (FX12_work_391  q y0 y1 h) := by
  intro q
  induction q with
  | zero =>
    intro y0 y1 h e
    exact e
  | succ q ih =>
    intro y0 y1 h e
    exact (EQ_if e (EQ_if (frI_FX12_work_435 _ _ _ ih _ (EQ_s rfl (EQ_s rfl e))) (frI_FX12_work_435 _ _ _ ih _ e)))
theorem frI_FX12_work {h0 : ph_H} (a0 : Int32) (a1 : Int32) (a2 : Int32) (a3 : Int32) (a4 : Int32) (h : ph_H) (e : EQ pI h0 h) : EQ pI h0 (FX12_work a0 a1 a2 a3 a4 h) := (EQ_if (frI_FX12_work_88   _ (frI_FX12_set _ _ _  _ e)) (EQ_if (frI_FX12_work_111   _ (frI_FX12_set _ _ _  _ e)) (EQ_if (frI_FX12_work_134   _ (frI_FX12_set _ _ _  _ e)) (EQ_if e (EQ_if e (EQ_if (frI_FX12_work_152 _ _ _  _ (frI_FX12_newThing _ _  _ e)) (EQ_if (frI_FX12_work_212   _ (frI_FX12_set _ _ _  _ (EQ_s rfl e))) (EQ_if (EQ_s rfl (EQ_s rfl e)) (EQ_if e (EQ_if (EQ_s rfl (EQ_s rfl (EQ_s rfl e))) (EQ_if (EQ_s rfl (EQ_s rfl (EQ_s rfl e))) (EQ_if (EQ_s rfl (EQ_s rfl (EQ_s rfl (EQ_s rfl e)))) (EQ_if (frI_FX12_work_391   _ _ _ _ (EQ_s rfl (EQ_s rfl e))) e)))))))))))))
theorem frI_FX12_workPlain_116 {h0 : ph_H}  (h : ph_H) (e : EQ pI h0 h) : EQ pI h0 (FX12_workPlain_116 h) := e
theorem frI_FX12_workPlain_153 {h0 : ph_H}  (h : ph_H) (e : EQ pI h0 h) : EQ pI h0 (FX12_workPlain_153 h) := e
theorem frI_FX12_workPlain_191 {h0 : ph_H}  (h : ph_H) (e : EQ pI h0 h) : EQ pI h0 (FX12_workPlain_191 h) := e
theorem frI_FX12_workPlain_222 {h0 : ph_H}  (h : ph_H) (e : EQ pI h0 h) : EQ pI h0 (FX12_workPlain_222 h) := e
theorem frI_FX12_workPlain_219 {h0 : ph_H} (s0 : Int32) (s1 : Int32) (s2 : Int32) (h : ph_H) (e : EQ pI h0 h) : EQ pI h0 (FX12_workPlain_219 s0 s1 s2 h) := (frI_FX12_workPlain_222   _ (frI_FX12_set _ _ _  _ e))
theorem frI_FX12_workPlain_206 {h0 : ph_H} (x3 : Int32) (s0 : Int32) (h : ph_H) (e : EQ pI h0 h) : EQ pI h0 (FX12_workPlain_206 x3 s0 h) := (frI_FX12_workPlain_219 _ _ _  _ (frI_FX12_newThing _ _  _ e))
theorem frI_FX12_workPlain_259 {h0 : ph_H}  (h : ph_H) (e : EQ pI h0 h) : EQ pI h0 (FX12_workPlain_259 h) := (EQ_s rfl e)
theorem frI_FX12_workPlain_256 {h0 : ph_H} (s0 : Int32) (s1 : Int32) (s2 : Int32) (h : ph_H) (e : EQ pI h0 h) : EQ pI h0 (FX12_workPlain_256 s0 s1 s2 h) := (frI_FX12_workPlain_259   _ (frI_FX12_set _ _ _  _ e))
theorem frI_FX12_workPlain {h0 : ph_H} (a0 : Int32) (a1 : Int32) (a2 : Int32) (a3 : Int32) (h : ph_H) (e : EQ pI h0 h) : EQ pI h0 (FX12_workPlain a0 a1 a2 a3 h) := (EQ_if (frI_FX12_workPlain_116   _ (frI_FX12_set _ _ _  _ e)) (EQ_if (frI_FX12_workPlain_153   _ (frI_FX12_set _ _ _  _ (EQ_s rfl e))) (EQ_if (frI_FX12_workPlain_191   _ (frI_FX12_set _ _ _  _ (EQ_s rfl e))) (EQ_if e (EQ_if e (EQ_if e (EQ_if e (EQ_if e (EQ_if e (EQ_if e (EQ_if e (EQ_if (EQ_if (frI_FX12_workPlain_206 _ _  _ e) (frI_FX12_workPlain_206 _ _  _ e)) (EQ_if e (EQ_if e (EQ_if e (EQ_if e (EQ_if (EQ_if (frI_FX12_workPlain_256 _ _ _  _ e) (frI_FX12_workPlain_256 _ _ _  _ e)) (EQ_if (EQ_s rfl (EQ_s rfl (EQ_s rfl e))) e))))))))))))))))))
theorem frI_FX12_instruct_251 {h0 : ph_H} (s0 : Int32) (s1 : Int32) (h : ph_H) (e : EQ pI h0 h) : EQ pI h0 (FX12_instruct_251 s0 s1 h) := (frI_FX12_goTo _ _  _ e)
theorem frI_FX12_instruct_204 {h0 : ph_H} (x1 : Int32) (x2 : Int32) (x6 : Int32) (x7 : Int32) (h : ph_H) (e : EQ pI h0 h) : EQ pI h0 (FX12_instruct_204 x1 x2 x6 x7 h) := (EQ_if e (EQ_if (frI_FX12_instruct_251 _ _  _ e) (EQ_if (frI_FX12_instruct_251 _ _  _ e) (frI_FX12_instruct_251 _ _  _ e))))
theorem frI_FX12_instruct_195 {h0 : ph_H} (x1 : Int32) (x2 : Int32) (x3 : Int32) (x4 : Int32) (x6 : Int32) (x7 : Int32) (h : ph_H) (e : EQ pI h0 h) : EQ pI h0 (FX12_instruct_195 x1 x2 x3 x4 x6 x7 h) := (frI_FX12_instruct_204 _ _ _ _  _ (frI_FX12_workPlain _ _ _ _  _ e))
theorem frI_FX12_instruct_177 {h0 : ph_H} (x1 : Int32) (x2 : Int32) (x3 : Int32) (x4 : Int32) (x5 : Int32) (x6 : Int32) (s0 : Int32) (h : ph_H) (e : EQ pI h0 h) : EQ pI h0 (FX12_instruct_177 x1 x2 x3 x4 x5 x6 s0 h) := (frI_FX12_instruct_195 _ _ _ _ _ _  _ (frI_FX12_work _ _ _ _ _  _ e))
theorem frI_FX12_instruct_149 {h0 : ph_H} (x1 : Int32) (x2 : Int32) (x3 : Int32) (x4 : Int32) (x5 : Int32) (s0 : Int32) (h : ph_H) (e : EQ pI h0 h) : EQ pI h0 (FX12_instruct_149 x1 x2 x3 x4 x5 s0 h) := (EQ_if (frI_FX12_instruct_177 _ _ _ _ _ _ _  _ e) (frI_FX12_instruct_177 _ _ _ _ _ _ _  _ e))
theorem frI_FX12_instruct_144 {h0 : ph_H} (x1 : Int32) (x2 : Int32) (x3 : Int32) (x4 : Int32) (x5 : Int32) (h : ph_H) (e : EQ pI h0 h) : EQ pI h0 (FX12_instruct_144 x1 x2 x3 x4 x5 h) := (frI_FX12_instruct_149 _ _ _ _ _ _  _ e)
theorem frI_FX12_instruct_148 {h0 : ph_H} (x1 : Int32) (x2 : Int32) (x3 : Int32) (x4 : Int32) (x5 : Int32) (h : ph_H) (e : EQ pI h0 h) : EQ pI h0 (FX12_instruct_148 x1 x2 x3 x4 x5 h) := (frI_FX12_instruct_149 _ _ _ _ _ _  _ e)
theorem frI_FX12_instruct_102 {h0 : ph_H} (x1 : Int32) (x2 : Int32) (x3 : Int32) (x4 : Int32) (x5 : Int32) (s0 : Int32) (h : ph_H) (e : EQ pI h0 h) : EQ pI h0 (FX12_instruct_102 x1 x2 x3 x4 x5 s0 h) := (EQ_if (EQ_if (frI_FX12_instruct_144 _ _ _ _ _  _ (EQ_s rfl e)) (EQ_if (EQ_if (frI_FX12_instruct_144 _ _ _ _ _  _ (EQ_s rfl e)) (frI_FX12_instruct_148 _ _ _ _ _  _ (EQ_s rfl e))) (frI_FX12_instruct_148 _ _ _ _ _  _ (EQ_s rfl e)))) (EQ_s rfl e))
theorem frI_FX12_instruct_98 {h0 : ph_H} (x1 : Int32) (x2 : Int32) (x3 : Int32) (x4 : Int32) (x5 : Int32) (h : ph_H) (e : EQ pI h0 h) : EQ pI h0 (FX12_instruct_98 x1 x2 x3 x4 x5 h) := (frI_FX12_instruct_102 _ _ _ _ _ _  _ e)
theorem frI_FX12_instruct {h0 : ph_H} (a0 : Int32) (a1 : Int32) (h : ph_H) (e : EQ pI h0 h) : EQ pI h0 (FX12_instruct a0 a1 h) := (EQ_if (EQ_if (frI_FX12_instruct_98 _ _ _ _ _  _ (EQ_s rfl e)) (frI_FX12_instruct_102 _ _ _ _ _ _  _ (EQ_s rfl e))) (frI_FX12_instruct_98 _ _ _ _ _  _ (EQ_s rfl e)))
def pG (k i : Nat) : Bool := match k with
  | 15 => false
  | 16 => false
  | 17 => false
  | 18 => false
  | 19 => false
  | 20 => false
  | 21 => false
  | 22 => false
  | 23 => false
  | 24 => false
  | _ => true
theorem frG_FX3_hold_s {h0 : ph_H} (a0 : Int32) (a1 : Int32) (a2 : Int32) (h : ph_H) (e : EQ pG h0 h) : EQ pG h0 (FX3_hold_s a0 a1 a2 h).2 := (EQ_s rfl (EQ_s rfl e))
theorem frG_FX3_getCell_s {h0 : ph_H} (a0 : Int32) (a1 : Int32) (h : ph_H) (e : EQ pG h0 h) : EQ pG h0 (FX3_getCell_s a0 a1 h).2 := (frG_FX3_hold_s _ _ _  _ (EQ_s rfl e))
theorem frG_FX3_goTo_s {h0 : ph_H} (a0 : Int32) (h : ph_H) (e : EQ pG h0 h) : EQ pG h0 (FX3_goTo_s a0 h).2 := (EQ_s rfl e)
theorem frG_FX3_goUnless_s_25 {h0 : ph_H} (s0 : Int32) (h : ph_H) (e : EQ pG h0 h) : EQ pG h0 (FX3_goUnless_s_25 s0 h).2 := e
theorem frG_FX3_goUnless_s {h0 : ph_H} (a0 : Int32) (a1 : Int32) (h : ph_H) (e : EQ pG h0 h) : EQ pG h0 (FX3_goUnless_s a0 a1 h).2 := (EQ2_if (EQ2_if (frG_FX3_goUnless_s_25 _  _ (frG_FX3_goTo_s _  _ e)) e) e)
theorem frG_FX3_free_s {h0 : ph_H} (a0 : Int32) (h : ph_H) (e : EQ pG h0 h) : EQ pG h0 (FX3_free_s a0 h).2 := (EQ_s rfl (EQ_s rfl (EQ_s rfl e)))
theorem frG_FX3_leaveLock_s {h0 : ph_H} (a0 : Int32) (a1 : Int32) (h : ph_H) (e : EQ pG h0 h) : EQ pG h0 (FX3_leaveLock_s a0 a1 h).2 := (EQ2_if (EQ2_if (frG_FX3_free_s _  _ e) e) e)
theorem frG_FX3_lieDown_s {h0 : ph_H} (a0 : Int32) (a1 : Int32) (h : ph_H) (e : EQ pG h0 h) : EQ pG h0 (FX3_lieDown_s a0 a1 h).2 := (EQ2_if (EQ2_if (frG_FX3_free_s _  _ (EQ_s rfl (EQ_s rfl (EQ_s rfl e)))) e) e)
theorem frG_FX3_makeThing_s {h0 : ph_H} (a0 : Int32) (a1 : Int32) (a2 : Int32) (h : ph_H) (e : EQ pG h0 h) : EQ pG h0 (FX3_makeThing_s a0 a1 a2 h).2 := (EQ_s rfl (EQ_s rfl (EQ_s rfl (EQ_s rfl (EQ_s rfl (EQ_s rfl e))))))
theorem frG_FX3_makeLock_s_22 {h0 : ph_H} (s0 : Int32) (s1 : Int32) (h : ph_H) (e : EQ pG h0 h) : EQ pG h0 (FX3_makeLock_s_22 s0 s1 h).2 := (frG_FX3_makeThing_s _ _ _  _ e)
theorem frG_FX3_makeLock_s {h0 : ph_H} (a0 : Int32) (a1 : Int32) (h : ph_H) (e : EQ pG h0 h) : EQ pG h0 (FX3_makeLock_s a0 a1 h).2 := (EQ2_if (EQ2_if (frG_FX3_makeLock_s_22 _ _  _ e) (frG_FX3_makeLock_s_22 _ _  _ e)) e)
theorem frG_FX3_makeRow_s_44 {h0 : ph_H}  : ∀ (q : Nat) (y0 : Int32) (y1 : Int32) (y2 : Int32) (h : ph_H), EQ pG h0 h → EQ pG h0 (FX3_makeRow_s_44  q y0 y1 y2 h).2 := by
  intro q
  induction q with
  | zero =>
    intro y0 y1 y2 h e
    exact e
  | succ q ih =>
    intro y0 y1 y2 h e
    exact (EQ2_if (frG_FX3_makeThing_s _ _ _  _ e) (ih _ _ _ _ (EQ_s rfl e)))
theorem frG_FX3_makeRow_s {h0 : ph_H} (a0 : Int32) (a1 : Int32) (h : ph_H) (e : EQ pG h0 h) : EQ pG h0 (FX3_makeRow_s a0 a1 h).2 := (EQ2_if (EQ2_if (EQ2_if e (EQ2_if (frG_FX3_makeRow_s_44   _ _ _ _ _ e) e)) e) e)
theorem frG_FX3_putCell_s {h0 : ph_H} (a0 : Int32) (a1 : Int32) (h : ph_H) (e : EQ pG h0 h) : EQ pG h0 (FX3_putCell_s a0 a1 h).2 := (frG_FX3_hold_s _ _ _  _ (EQ_s rfl e))
theorem frG_FX3_readRow_s {h0 : ph_H} (a0 : Int32) (a1 : Int32) (a2 : Int32) (h : ph_H) (e : EQ pG h0 h) : EQ pG h0 (FX3_readRow_s a0 a1 a2 h).2 := (EQ2_if (EQ2_if (EQ2_if e (frG_FX3_hold_s _ _ _  _ (EQ_s rfl e))) e) e)
theorem frG_FX3_reckon_s_58 {h0 : ph_H} (x2 : Int32) (s0 : Int32) (h : ph_H) (e : EQ pG h0 h) : EQ pG h0 (FX3_reckon_s_58 x2 s0 h).2 := (frG_FX3_hold_s _ _ _  _ e)
theorem frG_FX3_reckon_s {h0 : ph_H} (a0 : Int32) (a1 : Int32) (a2 : Int32) (h : ph_H) (e : EQ pG h0 h) : EQ pG h0 (FX3_reckon_s a0 a1 a2 h).2 := (EQ2_if e (EQ2_if (frG_FX3_reckon_s_58 _ _  _ e) (EQ2_if (frG_FX3_reckon_s_58 _ _  _ e) (frG_FX3_reckon_s_58 _ _  _ e))))
theorem frG_FX3_startThread_s {h0 : ph_H} (a0 : Int32) (h : ph_H) (e : EQ pG h0 h) : EQ pG h0 (FX3_startThread_s a0 h).2 := (EQ2_if (EQ_s rfl (EQ_s rfl (EQ_s rfl e))) e)
theorem frG_FX3_takeInput_s {h0 : ph_H} (a0 : Int32) (h : ph_H) (e : EQ pG h0 h) : EQ pG h0 (FX3_takeInput_s a0 h).2 := (EQ2_if e (EQ2_if (frG_FX3_hold_s _ _ _  _ (EQ_s rfl e)) e))
theorem frG_FX3_own_s {h0 : ph_H} (a0 : Int32) (a1 : Int32) (h : ph_H) (e : EQ pG h0 h) : EQ pG h0 (FX3_own_s a0 a1 h).2 := (EQ_s rfl (EQ_s rfl (EQ_s rfl e)))
theorem frG_FX3_takeLock_s {h0 : ph_H} (a0 : Int32) (a1 : Int32) (h : ph_H) (e : EQ pG h0 h) : EQ pG h0 (FX3_takeLock_s a0 a1 h).2 := (EQ2_if (EQ2_if e (frG_FX3_own_s _ _  _ e)) e)
theorem frG_FX3_wakeSleepers_s_64 {h0 : ph_H} (L28 : Int32 → Int32 → ph_H → Int32 × ph_H) (x3 : Int32) (x4 : Int32) (hL28 : ∀ (y0 : Int32) (y1 : Int32) (h : ph_H), EQ pG h0 h → EQ pG h0 (L28 y0 y1 h).2) (h : ph_H) (e : EQ pG h0 h) : EQ pG h0 (FX3_wakeSleepers_s_64 L28 x3 x4 h).2 := (hL28 _ _ _ e)
theorem frG_FX3_wakeSleepers_s_28 {h0 : ph_H}  : ∀ (q : Nat) (y0 : Int32) (y1 : Int32) (h : ph_H), EQ pG h0 h → EQ pG h0 (FX3_wakeSleepers_s_28  q y0 y1 h).2 := by
  intro q
  induction q with
  | zero =>
    intro y0 y1 h e
    exact e
  | succ q ih =>
    intro y0 y1 h e
    exact (EQ2_if (EQ_s rfl e) (EQ2_if (EQ2_if (frG_FX3_wakeSleepers_s_64 _ _ _ ih _ (EQ_s rfl e)) (frG_FX3_wakeSleepers_s_64 _ _ _ ih _ e)) (frG_FX3_wakeSleepers_s_64 _ _ _ ih _ e)))
theorem frG_FX3_wakeSleepers_s {h0 : ph_H} (a0 : Int32) (a1 : Int32) (h : ph_H) (e : EQ pG h0 h) : EQ pG h0 (FX3_wakeSleepers_s a0 a1 h).2 := (EQ2_if (EQ2_if (frG_FX3_wakeSleepers_s_28   _ _ _ _ e) e) e)
theorem frG_FX3_writeRow_s {h0 : ph_H} (a0 : Int32) (a1 : Int32) (a2 : Int32) (h : ph_H) (e : EQ pG h0 h) : EQ pG h0 (FX3_writeRow_s a0 a1 a2 h).2 := (EQ2_if (EQ2_if e (EQ2_if e (EQ_s rfl (EQ_s rfl e)))) e)
theorem frG_FX3_perform_s_288 {h0 : ph_H} (s0 : Int32) (s1 : Int32) (h : ph_H) (e : EQ pG h0 h) : EQ pG h0 (FX3_perform_s_288 s0 s1 h).2 := (frG_FX3_makeLock_s _ _  _ e)
theorem frG_FX3_perform_s {h0 : ph_H} (a0 : Int32) (h : ph_H) (e : EQ pG h0 h) : EQ pG h0 (FX3_perform_s a0 h).2 := (EQ2_if (frG_FX3_hold_s _ _ _  _ e) (EQ2_if (frG_FX3_getCell_s _ _  _ e) (EQ2_if (frG_FX3_putCell_s _ _  _ e) (EQ2_if (frG_FX3_reckon_s _ _ _  _ e) (EQ2_if (frG_FX3_reckon_s _ _ _  _ e) (EQ2_if (frG_FX3_reckon_s _ _ _  _ e) (EQ2_if (frG_FX3_goTo_s _  _ e) (EQ2_if (frG_FX3_goUnless_s _ _  _ e) (EQ2_if (frG_FX3_makeRow_s _ _  _ e) (EQ2_if (frG_FX3_readRow_s _ _ _  _ e) (EQ2_if (frG_FX3_writeRow_s _ _ _  _ e) (EQ2_if (EQ2_if (frG_FX3_perform_s_288 _ _  _ e) (frG_FX3_perform_s_288 _ _  _ e)) (EQ2_if (frG_FX3_takeLock_s _ _  _ e) (EQ2_if (frG_FX3_leaveLock_s _ _  _ e) (EQ2_if (frG_FX3_lieDown_s _ _  _ e) (EQ2_if (frG_FX3_wakeSleepers_s _ _  _ e) (EQ2_if (frG_FX3_takeInput_s _  _ e) (EQ2_if (frG_FX3_startThread_s _  _ e) (EQ2_if e (frG_FX3_goTo_s _  _ e))))))))))))))))))))
theorem frG_FX3_rise_s {h0 : ph_H} (a0 : Int32) (h : ph_H) (e : EQ pG h0 h) : EQ pG h0 (FX3_rise_s a0 h).2 := (frG_FX3_own_s _ _  _ (EQ_s rfl e))
theorem frG_FX3_go_s_67 {h0 : ph_H} (x1 : Int32) (s0 : Int32) (h : ph_H) (e : EQ pG h0 h) : EQ pG h0 (FX3_go_s_67 x1 s0 h).2 := (EQ2_if (EQ_s rfl e) e)
theorem frG_FX3_go_s_59 {h0 : ph_H} (x1 : Int32) (s0 : Int32) (h : ph_H) (e : EQ pG h0 h) : EQ pG h0 (FX3_go_s_59 x1 s0 h).2 := (frG_FX3_go_s_67 _ _  _ e)
theorem frG_FX3_go_s {h0 : ph_H} (a0 : Int32) (h : ph_H) (e : EQ pG h0 h) : EQ pG h0 (FX3_go_s a0 h).2 := (EQ2_if e (EQ2_if (frG_FX3_go_s_59 _ _  _ (frG_FX3_rise_s _  _ (EQ_s rfl (EQ_s rfl (EQ_s rfl (EQ_s rfl (EQ_s rfl e))))))) (frG_FX3_go_s_67 _ _  _ (frG_FX3_perform_s _  _ (EQ_s rfl (EQ_s rfl (EQ_s rfl (EQ_s rfl (EQ_s rfl e)))))))))
def pA (k i : Nat) : Bool := match k with
  | 15 => false
  | 16 => false
  | 17 => false
  | 18 => false
  | 19 => false
  | 20 => false
  | 21 => false
  | 22 => false
  | 23 => false
  | 24 => false
  | 35 => false
  | 36 => false
  | 37 => false
  | 38 => false
  | 39 => false
  | 40 => false
  | 41 => false
  | 42 => false
  | 43 => false
  | 44 => false
  | 45 => false
  | 46 => false
  | _ => true
theorem frA_FX10_noteChange {h0 : ph_H} (a0 : Int32) (h : ph_H) (e : EQ pA h0 h) : EQ pA h0 (FX10_noteChange a0 h) := (EQ_if e (EQ_s rfl (EQ_s rfl (EQ_s rfl e))))
theorem frA_FX10_noteEffects_s_68 {h0 : ph_H}  (h : ph_H) (e : EQ pA h0 h) : EQ pA h0 (FX10_noteEffects_s_68 h) := (EQ_s rfl (EQ_s rfl e))
theorem frA_FX10_noteEffects_s {h0 : ph_H}  (h : ph_H) (e : EQ pA h0 h) : EQ pA h0 (FX10_noteEffects_s h) := (EQ_if (frA_FX10_noteEffects_s_68   _ (EQ_s rfl (EQ_s rfl e))) (EQ_if (frA_FX10_noteEffects_s_68   _ (EQ_s rfl (EQ_s rfl e))) (frA_FX10_noteEffects_s_68   _ (EQ_s rfl (EQ_s rfl (EQ_s rfl (EQ_s rfl e)))))))
theorem frA_FX3_hold_s {h0 : ph_H} (a0 : Int32) (a1 : Int32) (a2 : Int32) (h : ph_H) (e : EQ pA h0 h) : EQ pA h0 (FX3_hold_s a0 a1 a2 h).2 := (EQ_s rfl (EQ_s rfl e))
theorem frA_FX3_getCell_s {h0 : ph_H} (a0 : Int32) (a1 : Int32) (h : ph_H) (e : EQ pA h0 h) : EQ pA h0 (FX3_getCell_s a0 a1 h).2 := (frA_FX3_hold_s _ _ _  _ (EQ_s rfl e))
theorem frA_FX3_goTo_s {h0 : ph_H} (a0 : Int32) (h : ph_H) (e : EQ pA h0 h) : EQ pA h0 (FX3_goTo_s a0 h).2 := (EQ_s rfl e)
theorem frA_FX3_goUnless_s_25 {h0 : ph_H} (s0 : Int32) (h : ph_H) (e : EQ pA h0 h) : EQ pA h0 (FX3_goUnless_s_25 s0 h).2 := e
theorem frA_FX3_goUnless_s {h0 : ph_H} (a0 : Int32) (a1 : Int32) (h : ph_H) (e : EQ pA h0 h) : EQ pA h0 (FX3_goUnless_s a0 a1 h).2 := (EQ2_if (EQ2_if (frA_FX3_goUnless_s_25 _  _ (frA_FX3_goTo_s _  _ e)) e) e)
theorem frA_FX3_free_s {h0 : ph_H} (a0 : Int32) (h : ph_H) (e : EQ pA h0 h) : EQ pA h0 (FX3_free_s a0 h).2 := (EQ_s rfl (EQ_s rfl (EQ_s rfl e)))
theorem frA_FX3_leaveLock_s {h0 : ph_H} (a0 : Int32) (a1 : Int32) (h : ph_H) (e : EQ pA h0 h) : EQ pA h0 (FX3_leaveLock_s a0 a1 h).2 := (EQ2_if (EQ2_if (frA_FX3_free_s _  _ e) e) e)
theorem frA_FX3_lieDown_s {h0 : ph_H} (a0 : Int32) (a1 : Int32) (h : ph_H) (e : EQ pA h0 h) : EQ pA h0 (FX3_lieDown_s a0 a1 h).2 := (EQ2_if (EQ2_if (frA_FX3_free_s _  _ (EQ_s rfl (EQ_s rfl (EQ_s rfl e)))) e) e)
theorem frA_FX3_makeThing_s {h0 : ph_H} (a0 : Int32) (a1 : Int32) (a2 : Int32) (h : ph_H) (e : EQ pA h0 h) : EQ pA h0 (FX3_makeThing_s a0 a1 a2 h).2 := (EQ_s rfl (EQ_s rfl (EQ_s rfl (EQ_s rfl (EQ_s rfl (EQ_s rfl e))))))
theorem frA_FX3_makeLock_s_22 {h0 : ph_H} (s0 : Int32) (s1 : Int32) (h : ph_H) (e : EQ pA h0 h) : EQ pA h0 (FX3_makeLock_s_22 s0 s1 h).2 := (frA_FX3_makeThing_s _ _ _  _ e)
theorem frA_FX3_makeLock_s {h0 : ph_H} (a0 : Int32) (a1 : Int32) (h : ph_H) (e : EQ pA h0 h) : EQ pA h0 (FX3_makeLock_s a0 a1 h).2 := (EQ2_if (EQ2_if (frA_FX3_makeLock_s_22 _ _  _ e) (frA_FX3_makeLock_s_22 _ _  _ e)) e)
theorem frA_FX3_makeRow_s_44 {h0 : ph_H}  : ∀ (q : Nat) (y0 : Int32) (y1 : Int32) (y2 : Int32) (h : ph_H), EQ pA h0 h → EQ pA h0 (FX3_makeRow_s_44  q y0 y1 y2 h).2 := by
  intro q
  induction q with
  | zero =>
    intro y0 y1 y2 h e
    exact e
  | succ q ih =>
    intro y0 y1 y2 h e
    exact (EQ2_if (frA_FX3_makeThing_s _ _ _  _ e) (ih _ _ _ _ (EQ_s rfl e)))
theorem frA_FX3_makeRow_s {h0 : ph_H} (a0 : Int32) (a1 : Int32) (h : ph_H) (e : EQ pA h0 h) : EQ pA h0 (FX3_makeRow_s a0 a1 h).2 := (EQ2_if (EQ2_if (EQ2_if e (EQ2_if (frA_FX3_makeRow_s_44   _ _ _ _ _ e) e)) e) e)
theorem frA_FX3_putCell_s {h0 : ph_H} (a0 : Int32) (a1 : Int32) (h : ph_H) (e : EQ pA h0 h) : EQ pA h0 (FX3_putCell_s a0 a1 h).2 := (frA_FX3_hold_s _ _ _  _ (EQ_s rfl e))
theorem frA_FX3_readRow_s {h0 : ph_H} (a0 : Int32) (a1 : Int32) (a2 : Int32) (h : ph_H) (e : EQ pA h0 h) : EQ pA h0 (FX3_readRow_s a0 a1 a2 h).2 := (EQ2_if (EQ2_if (EQ2_if e (frA_FX3_hold_s _ _ _  _ (EQ_s rfl e))) e) e)
theorem frA_FX3_reckon_s_58 {h0 : ph_H} (x2 : Int32) (s0 : Int32) (h : ph_H) (e : EQ pA h0 h) : EQ pA h0 (FX3_reckon_s_58 x2 s0 h).2 := (frA_FX3_hold_s _ _ _  _ e)
theorem frA_FX3_reckon_s {h0 : ph_H} (a0 : Int32) (a1 : Int32) (a2 : Int32) (h : ph_H) (e : EQ pA h0 h) : EQ pA h0 (FX3_reckon_s a0 a1 a2 h).2 := (EQ2_if e (EQ2_if (frA_FX3_reckon_s_58 _ _  _ e) (EQ2_if (frA_FX3_reckon_s_58 _ _  _ e) (frA_FX3_reckon_s_58 _ _  _ e))))
theorem frA_FX3_startThread_s {h0 : ph_H} (a0 : Int32) (h : ph_H) (e : EQ pA h0 h) : EQ pA h0 (FX3_startThread_s a0 h).2 := (EQ2_if (EQ_s rfl (EQ_s rfl (EQ_s rfl e))) e)
theorem frA_FX3_takeInput_s {h0 : ph_H} (a0 : Int32) (h : ph_H) (e : EQ pA h0 h) : EQ pA h0 (FX3_takeInput_s a0 h).2 := (EQ2_if e (EQ2_if (frA_FX3_hold_s _ _ _  _ (EQ_s rfl e)) e))
theorem frA_FX3_own_s {h0 : ph_H} (a0 : Int32) (a1 : Int32) (h : ph_H) (e : EQ pA h0 h) : EQ pA h0 (FX3_own_s a0 a1 h).2 := (EQ_s rfl (EQ_s rfl (EQ_s rfl e)))
theorem frA_FX3_takeLock_s {h0 : ph_H} (a0 : Int32) (a1 : Int32) (h : ph_H) (e : EQ pA h0 h) : EQ pA h0 (FX3_takeLock_s a0 a1 h).2 := (EQ2_if (EQ2_if e (frA_FX3_own_s _ _  _ e)) e)
theorem frA_FX3_wakeSleepers_s_64 {h0 : ph_H} (L28 : Int32 → Int32 → ph_H → Int32 × ph_H) (x3 : Int32) (x4 : Int32) (hL28 : ∀ (y0 : Int32) (y1 : Int32) (h : ph_H), EQ pA h0 h → EQ pA h0 (L28 y0 y1 h).2) (h : ph_H) (e : EQ pA h0 h) : EQ pA h0 (FX3_wakeSleepers_s_64 L28 x3 x4 h).2 := (hL28 _ _ _ e)
theorem frA_FX3_wakeSleepers_s_28 {h0 : ph_H}  : ∀ (q : Nat) (y0 : Int32) (y1 : Int32) (h : ph_H), EQ pA h0 h → EQ pA h0 (FX3_wakeSleepers_s_28  q y0 y1 h).2 := by
  intro q
  induction q with
  | zero =>
    intro y0 y1 h e
    exact e
  | succ q ih =>
    intro y0 y1 h e
    exact (EQ2_if (EQ_s rfl e) (EQ2_if (EQ2_if (frA_FX3_wakeSleepers_s_64 _ _ _ ih _ (EQ_s rfl e)) (frA_FX3_wakeSleepers_s_64 _ _ _ ih _ e)) (frA_FX3_wakeSleepers_s_64 _ _ _ ih _ e)))
theorem frA_FX3_wakeSleepers_s {h0 : ph_H} (a0 : Int32) (a1 : Int32) (h : ph_H) (e : EQ pA h0 h) : EQ pA h0 (FX3_wakeSleepers_s a0 a1 h).2 := (EQ2_if (EQ2_if (frA_FX3_wakeSleepers_s_28   _ _ _ _ e) e) e)
theorem frA_FX3_writeRow_s {h0 : ph_H} (a0 : Int32) (a1 : Int32) (a2 : Int32) (h : ph_H) (e : EQ pA h0 h) : EQ pA h0 (FX3_writeRow_s a0 a1 a2 h).2 := (EQ2_if (EQ2_if e (EQ2_if e (EQ_s rfl (EQ_s rfl e)))) e)
theorem frA_FX3_perform_s_288 {h0 : ph_H} (s0 : Int32) (s1 : Int32) (h : ph_H) (e : EQ pA h0 h) : EQ pA h0 (FX3_perform_s_288 s0 s1 h).2 := (frA_FX3_makeLock_s _ _  _ e)
theorem frA_FX3_perform_s {h0 : ph_H} (a0 : Int32) (h : ph_H) (e : EQ pA h0 h) : EQ pA h0 (FX3_perform_s a0 h).2 := (EQ2_if (frA_FX3_hold_s _ _ _  _ e) (EQ2_if (frA_FX3_getCell_s _ _  _ e) (EQ2_if (frA_FX3_putCell_s _ _  _ e) (EQ2_if (frA_FX3_reckon_s _ _ _  _ e) (EQ2_if (frA_FX3_reckon_s _ _ _  _ e) (EQ2_if (frA_FX3_reckon_s _ _ _  _ e) (EQ2_if (frA_FX3_goTo_s _  _ e) (EQ2_if (frA_FX3_goUnless_s _ _  _ e) (EQ2_if (frA_FX3_makeRow_s _ _  _ e) (EQ2_if (frA_FX3_readRow_s _ _ _  _ e) (EQ2_if (frA_FX3_writeRow_s _ _ _  _ e) (EQ2_if (EQ2_if (frA_FX3_perform_s_288 _ _  _ e) (frA_FX3_perform_s_288 _ _  _ e)) (EQ2_if (frA_FX3_takeLock_s _ _  _ e) (EQ2_if (frA_FX3_leaveLock_s _ _  _ e) (EQ2_if (frA_FX3_lieDown_s _ _  _ e) (EQ2_if (frA_FX3_wakeSleepers_s _ _  _ e) (EQ2_if (frA_FX3_takeInput_s _  _ e) (EQ2_if (frA_FX3_startThread_s _  _ e) (EQ2_if e (frA_FX3_goTo_s _  _ e))))))))))))))))))))
theorem frA_FX3_rise_s {h0 : ph_H} (a0 : Int32) (h : ph_H) (e : EQ pA h0 h) : EQ pA h0 (FX3_rise_s a0 h).2 := (frA_FX3_own_s _ _  _ (EQ_s rfl e))
theorem frA_FX3_go_s_67 {h0 : ph_H} (x1 : Int32) (s0 : Int32) (h : ph_H) (e : EQ pA h0 h) : EQ pA h0 (FX3_go_s_67 x1 s0 h).2 := (EQ2_if (EQ_s rfl e) e)
theorem frA_FX3_go_s_59 {h0 : ph_H} (x1 : Int32) (s0 : Int32) (h : ph_H) (e : EQ pA h0 h) : EQ pA h0 (FX3_go_s_59 x1 s0 h).2 := (frA_FX3_go_s_67 _ _  _ e)
theorem frA_FX3_go_s {h0 : ph_H} (a0 : Int32) (h : ph_H) (e : EQ pA h0 h) : EQ pA h0 (FX3_go_s a0 h).2 := (EQ2_if e (EQ2_if (frA_FX3_go_s_59 _ _  _ (frA_FX3_rise_s _  _ (EQ_s rfl (EQ_s rfl (EQ_s rfl (EQ_s rfl (EQ_s rfl e))))))) (frA_FX3_go_s_67 _ _  _ (frA_FX3_perform_s _  _ (EQ_s rfl (EQ_s rfl (EQ_s rfl (EQ_s rfl (EQ_s rfl e)))))))))
theorem frA_FX10_advance_s_51 {h0 : ph_H} (x2 : Int32) (x3 : Int32) (h : ph_H) (e : EQ pA h0 h) : EQ pA h0 (FX10_advance_s_51 x2 x3 h).2 := (frA_FX10_noteEffects_s   _ (EQ_s rfl (EQ_s rfl (EQ_s rfl (EQ_s rfl e)))))
theorem frA_FX10_advance_s_30 {h0 : ph_H} (x2 : Int32) (x3 : Int32) (s0 : Int32) (h : ph_H) (e : EQ pA h0 h) : EQ pA h0 (FX10_advance_s_30 x2 x3 s0 h).2 := (EQ2_if e (frA_FX10_advance_s_51 _ _  _ (frA_FX10_noteChange _  _ (EQ_s rfl e))))
theorem frA_FX10_advance_s {h0 : ph_H} (a1 : Int32) (h : ph_H) (e : EQ pA h0 h) : EQ pA h0 (FX10_advance_s a1 h).2 := (EQ2_if (EQ2_if (frA_FX10_advance_s_30 _ _ _  _ (frA_FX3_go_s _  _ e)) e) e)
def pT (k i : Nat) : Bool := match k with
  | 0 => !(i == 60 || i == 18 || (23 ≤ i && i ≤ 35))
  | 10 => false
  | 11 => false
  | 12 => false
  | 13 => false
  | 14 => false
  | 15 => false
  | 16 => false
  | 17 => false
  | 18 => false
  | 19 => false
  | 20 => false
  | 21 => false
  | 22 => false
  | 23 => false
  | 24 => false
  | 25 => false
  | 26 => false
  | 27 => false
  | 28 => false
  | 29 => false
  | 30 => false
  | 31 => false
  | 32 => false
  | 33 => false
  | 34 => false
  | 35 => false
  | 36 => false
  | 37 => false
  | 38 => false
  | _ => true
theorem frT_FX12_goTo_19 {h0 : ph_H} (s0 : Int32) (h : ph_H) (e : EQ pT h0 h) : EQ pT h0 (FX12_goTo_19 s0 h) := (EQ_s rfl e)
theorem frT_FX12_goTo {h0 : ph_H} (a0 : Int32) (a1 : Int32) (h : ph_H) (e : EQ pT h0 h) : EQ pT h0 (FX12_goTo a0 a1 h) := (EQ_if (frT_FX12_goTo_19 _  _ e) (EQ_if (EQ_s rfl e) (frT_FX12_goTo_19 _  _ e)))
theorem frT_FX12_set {h0 : ph_H} (a0 : Int32) (a1 : Int32) (a2 : Int32) (h : ph_H) (e : EQ pT h0 h) : EQ pT h0 (FX12_set a0 a1 a2 h) := (EQ_s rfl (EQ_s rfl e))
theorem frT_FX12_newThing_29 {h0 : ph_H}  : ∀ (q : Nat) (y0 : Int32) (y1 : Int32) (h : ph_H), EQ pT h0 h → EQ pT h0 (FX12_newThing_29  q y0 y1 h).2 := by
  intro q
  induction q with
  | zero =>
    intro y0 y1 h e
    exact e
  | succ q ih =>
    intro y0 y1 h e
    exact (EQ2_if (EQ_s rfl e) (ih _ _ _ (EQ_s rfl e)))
theorem frT_FX12_newThing {h0 : ph_H} (a0 : Int32) (a1 : Int32) (h : ph_H) (e : EQ pT h0 h) : EQ pT h0 (FX12_newThing a0 a1 h).2 := (frT_FX12_newThing_29   _ _ _ _ (EQ_s rfl (EQ_s rfl (EQ_s rfl e))))
theorem frT_FX12_work_88 {h0 : ph_H}  (h : ph_H) (e : EQ pT h0 h) : EQ pT h0 (FX12_work_88 h) := e
theorem frT_FX12_work_111 {h0 : ph_H}  (h : ph_H) (e : EQ pT h0 h) : EQ pT h0 (FX12_work_111 h) := e
theorem frT_FX12_work_134 {h0 : ph_H}  (h : ph_H) (e : EQ pT h0 h) : EQ pT h0 (FX12_work_134 h) := e
theorem frT_FX12_work_155 {h0 : ph_H}  (h : ph_H) (e : EQ pT h0 h) : EQ pT h0 (FX12_work_155 h) := e
theorem frT_FX12_work_152 {h0 : ph_H} (s0 : Int32) (s1 : Int32) (s2 : Int32) (h : ph_H) (e : EQ pT h0 h) : EQ pT h0 (FX12_work_152 s0 s1 s2 h) := (frT_FX12_work_155   _ (frT_FX12_set _ _ _  _ e))
theorem frT_FX12_work_212 {h0 : ph_H}  (h : ph_H) (e : EQ pT h0 h) : EQ pT h0 (FX12_work_212 h) := e
theorem frT_FX12_work_435 {h0 : ph_H} (L391 : Int32 → Int32 → ph_H → ph_H) (x3 : Int32) (x6 : Int32) (hL391 : ∀ (y0 : Int32) (y1 : Int32) (h : ph_H), EQ pT h0 h → EQ pT h0 (L391 y0 y1 h)) (h : ph_H) (e : EQ pT h0 h) : EQ pT h0 (FX12_work_435 L391 x3 x6 h) := (hL391 _ _ _ e)
theorem frT_FX12_work_391 {h0 : ph_H}  : ∀ (q : Nat) (y0 : Int32) (y1 : Int32) (h : ph_H), EQ pT h0 h → EQ pT h0 (FX12_work_391  q y0 y1 h) := by
  intro q
  induction q with
  | zero =>
    intro y0 y1 h e
    exact e
  | succ q ih =>
    intro y0 y1 h e
    exact (EQ_if e (EQ_if (frT_FX12_work_435 _ _ _ ih _ (EQ_s rfl (EQ_s rfl e))) (frT_FX12_work_435 _ _ _ ih _ e)))
theorem frT_FX12_work {h0 : ph_H} (a0 : Int32) (a1 : Int32) (a2 : Int32) (a3 : Int32) (a4 : Int32) (h : ph_H) (e : EQ pT h0 h) : EQ pT h0 (FX12_work a0 a1 a2 a3 a4 h) := (EQ_if (frT_FX12_work_88   _ (frT_FX12_set _ _ _  _ e)) (EQ_if (frT_FX12_work_111   _ (frT_FX12_set _ _ _  _ e)) (EQ_if (frT_FX12_work_134   _ (frT_FX12_set _ _ _  _ e)) (EQ_if e (EQ_if e (EQ_if (frT_FX12_work_152 _ _ _  _ (frT_FX12_newThing _ _  _ e)) (EQ_if (frT_FX12_work_212   _ (frT_FX12_set _ _ _  _ (EQ_s rfl e))) (EQ_if (EQ_s rfl (EQ_s rfl e)) (EQ_if e (EQ_if (EQ_s rfl (EQ_s rfl (EQ_s rfl e))) (EQ_if (EQ_s rfl (EQ_s rfl (EQ_s rfl e))) (EQ_if (EQ_s rfl (EQ_s rfl (EQ_s rfl (EQ_s rfl e)))) (EQ_if (frT_FX12_work_391   _ _ _ _ (EQ_s rfl (EQ_s rfl e))) e)))))))))))))
theorem frT_FX12_workPlain_116 {h0 : ph_H}  (h : ph_H) (e : EQ pT h0 h) : EQ pT h0 (FX12_workPlain_116 h) := e
theorem frT_FX12_workPlain_153 {h0 : ph_H}  (h : ph_H) (e : EQ pT h0 h) : EQ pT h0 (FX12_workPlain_153 h) := e
theorem frT_FX12_workPlain_191 {h0 : ph_H}  (h : ph_H) (e : EQ pT h0 h) : EQ pT h0 (FX12_workPlain_191 h) := e
theorem frT_FX12_workPlain_222 {h0 : ph_H}  (h : ph_H) (e : EQ pT h0 h) : EQ pT h0 (FX12_workPlain_222 h) := e
theorem frT_FX12_workPlain_219 {h0 : ph_H} (s0 : Int32) (s1 : Int32) (s2 : Int32) (h : ph_H) (e : EQ pT h0 h) : EQ pT h0 (FX12_workPlain_219 s0 s1 s2 h) := (frT_FX12_workPlain_222   _ (frT_FX12_set _ _ _  _ e))
theorem frT_FX12_workPlain_206 {h0 : ph_H} (x3 : Int32) (s0 : Int32) (h : ph_H) (e : EQ pT h0 h) : EQ pT h0 (FX12_workPlain_206 x3 s0 h) := (frT_FX12_workPlain_219 _ _ _  _ (frT_FX12_newThing _ _  _ e))
theorem frT_FX12_workPlain_259 {h0 : ph_H}  (h : ph_H) (e : EQ pT h0 h) : EQ pT h0 (FX12_workPlain_259 h) := (EQ_s rfl e)
theorem frT_FX12_workPlain_256 {h0 : ph_H} (s0 : Int32) (s1 : Int32) (s2 : Int32) (h : ph_H) (e : EQ pT h0 h) : EQ pT h0 (FX12_workPlain_256 s0 s1 s2 h) := (frT_FX12_workPlain_259   _ (frT_FX12_set _ _ _  _ e))
theorem frT_FX12_workPlain {h0 : ph_H} (a0 : Int32) (a1 : Int32) (a2 : Int32) (a3 : Int32) (h : ph_H) (e : EQ pT h0 h) : EQ pT h0 (FX12_workPlain a0 a1 a2 a3 h) := (EQ_if (frT_FX12_workPlain_116   _ (frT_FX12_set _ _ _  _ e)) (EQ_if (frT_FX12_workPlain_153   _ (frT_FX12_set _ _ _  _ (EQ_s rfl e))) (EQ_if (frT_FX12_workPlain_191   _ (frT_FX12_set _ _ _  _ (EQ_s rfl e))) (EQ_if e (EQ_if e (EQ_if e (EQ_if e (EQ_if e (EQ_if e (EQ_if e (EQ_if e (EQ_if (EQ_if (frT_FX12_workPlain_206 _ _  _ e) (frT_FX12_workPlain_206 _ _  _ e)) (EQ_if e (EQ_if e (EQ_if e (EQ_if e (EQ_if (EQ_if (frT_FX12_workPlain_256 _ _ _  _ e) (frT_FX12_workPlain_256 _ _ _  _ e)) (EQ_if (EQ_s rfl (EQ_s rfl (EQ_s rfl e))) e))))))))))))))))))
theorem frT_FX12_instruct_251 {h0 : ph_H} (s0 : Int32) (s1 : Int32) (h : ph_H) (e : EQ pT h0 h) : EQ pT h0 (FX12_instruct_251 s0 s1 h) := (frT_FX12_goTo _ _  _ e)
theorem frT_FX12_instruct_204 {h0 : ph_H} (x1 : Int32) (x2 : Int32) (x6 : Int32) (x7 : Int32) (h : ph_H) (e : EQ pT h0 h) : EQ pT h0 (FX12_instruct_204 x1 x2 x6 x7 h) := (EQ_if e (EQ_if (frT_FX12_instruct_251 _ _  _ e) (EQ_if (frT_FX12_instruct_251 _ _  _ e) (frT_FX12_instruct_251 _ _  _ e))))
theorem frT_FX12_instruct_195 {h0 : ph_H} (x1 : Int32) (x2 : Int32) (x3 : Int32) (x4 : Int32) (x6 : Int32) (x7 : Int32) (h : ph_H) (e : EQ pT h0 h) : EQ pT h0 (FX12_instruct_195 x1 x2 x3 x4 x6 x7 h) := (frT_FX12_instruct_204 _ _ _ _  _ (frT_FX12_workPlain _ _ _ _  _ e))
theorem frT_FX12_instruct_177 {h0 : ph_H} (x1 : Int32) (x2 : Int32) (x3 : Int32) (x4 : Int32) (x5 : Int32) (x6 : Int32) (s0 : Int32) (h : ph_H) (e : EQ pT h0 h) : EQ pT h0 (FX12_instruct_177 x1 x2 x3 x4 x5 x6 s0 h) := (frT_FX12_instruct_195 _ _ _ _ _ _  _ (frT_FX12_work _ _ _ _ _  _ e))
theorem frT_FX12_instruct_149 {h0 : ph_H} (x1 : Int32) (x2 : Int32) (x3 : Int32) (x4 : Int32) (x5 : Int32) (s0 : Int32) (h : ph_H) (e : EQ pT h0 h) : EQ pT h0 (FX12_instruct_149 x1 x2 x3 x4 x5 s0 h) := (EQ_if (frT_FX12_instruct_177 _ _ _ _ _ _ _  _ e) (frT_FX12_instruct_177 _ _ _ _ _ _ _  _ e))
theorem frT_FX12_instruct_144 {h0 : ph_H} (x1 : Int32) (x2 : Int32) (x3 : Int32) (x4 : Int32) (x5 : Int32) (h : ph_H) (e : EQ pT h0 h) : EQ pT h0 (FX12_instruct_144 x1 x2 x3 x4 x5 h) := (frT_FX12_instruct_149 _ _ _ _ _ _  _ e)
theorem frT_FX12_instruct_148 {h0 : ph_H} (x1 : Int32) (x2 : Int32) (x3 : Int32) (x4 : Int32) (x5 : Int32) (h : ph_H) (e : EQ pT h0 h) : EQ pT h0 (FX12_instruct_148 x1 x2 x3 x4 x5 h) := (frT_FX12_instruct_149 _ _ _ _ _ _  _ e)
theorem frT_FX12_instruct_102 {h0 : ph_H} (x1 : Int32) (x2 : Int32) (x3 : Int32) (x4 : Int32) (x5 : Int32) (s0 : Int32) (h : ph_H) (e : EQ pT h0 h) : EQ pT h0 (FX12_instruct_102 x1 x2 x3 x4 x5 s0 h) := (EQ_if (EQ_if (frT_FX12_instruct_144 _ _ _ _ _  _ (EQ_s rfl e)) (EQ_if (EQ_if (frT_FX12_instruct_144 _ _ _ _ _  _ (EQ_s rfl e)) (frT_FX12_instruct_148 _ _ _ _ _  _ (EQ_s rfl e))) (frT_FX12_instruct_148 _ _ _ _ _  _ (EQ_s rfl e)))) (EQ_s rfl e))
theorem frT_FX12_instruct_98 {h0 : ph_H} (x1 : Int32) (x2 : Int32) (x3 : Int32) (x4 : Int32) (x5 : Int32) (h : ph_H) (e : EQ pT h0 h) : EQ pT h0 (FX12_instruct_98 x1 x2 x3 x4 x5 h) := (frT_FX12_instruct_102 _ _ _ _ _ _  _ e)
theorem frT_FX12_instruct {h0 : ph_H} (a0 : Int32) (a1 : Int32) (h : ph_H) (e : EQ pT h0 h) : EQ pT h0 (FX12_instruct a0 a1 h) := (EQ_if (EQ_if (frT_FX12_instruct_98 _ _ _ _ _  _ (EQ_s rfl e)) (frT_FX12_instruct_102 _ _ _ _ _ _  _ (EQ_s rfl e))) (frT_FX12_instruct_98 _ _ _ _ _  _ (EQ_s rfl e)))
theorem frT_FX12_step_154 {h0 : ph_H} (x1 : Int32) (h : ph_H) (e : EQ pT h0 h) : EQ pT h0 (FX12_step_154 x1 h) := (EQ_s rfl (EQ_s rfl e))
theorem frT_FX12_step_110 {h0 : ph_H} (x1 : Int32) (h : ph_H) (e : EQ pT h0 h) : EQ pT h0 (FX12_step_110 x1 h) := (frT_FX12_step_154 _  _ e)
theorem frT_FX12_step_148 {h0 : ph_H} (x1 : Int32) (x2 : Int32) (h : ph_H) (e : EQ pT h0 h) : EQ pT h0 (FX12_step_148 x1 x2 h) := (frT_FX12_step_154 _  _ (frT_FX12_instruct _ _  _ e))
theorem frT_FX12_step {h0 : ph_H} (a0 : Int32) (h : ph_H) (e : EQ pT h0 h) : EQ pT h0 (FX12_step a0 h) := (EQ_if (EQ_if (EQ_if (frT_FX12_step_148 _ _  _ (EQ_s rfl (EQ_s rfl (EQ_s rfl (EQ_s rfl (EQ_s rfl (EQ_s rfl e))))))) (EQ_if (EQ_s rfl (EQ_s rfl (EQ_s rfl (EQ_s rfl (EQ_s rfl (EQ_s rfl (EQ_s rfl e))))))) (frT_FX12_step_148 _ _  _ (EQ_s rfl (EQ_s rfl (EQ_s rfl (EQ_s rfl (EQ_s rfl (EQ_s rfl e))))))))) (frT_FX12_step_148 _ _  _ (EQ_s rfl (EQ_s rfl (EQ_s rfl (EQ_s rfl (EQ_s rfl (EQ_s rfl e)))))))) (frT_FX12_step_110 _  _ (frT_FX12_goTo _ _  _ (EQ_s rfl (EQ_s rfl (EQ_s rfl (EQ_s rfl (EQ_s rfl (EQ_s rfl (EQ_s rfl (EQ_s rfl (EQ_s rfl (EQ_s rfl e)))))))))))))
theorem frT_FX12_keep_171 {h0 : ph_H}  : ∀ (q : Nat) (y0 : Int32) (y1 : Int32) (h : ph_H), EQ pT h0 h → EQ pT h0 (FX12_keep_171  q y0 y1 h) := by
  intro q
  induction q with
  | zero =>
    intro y0 y1 h e
    exact e
  | succ q ih =>
    intro y0 y1 h e
    exact (EQ_if e (ih _ _ _ (EQ_s rfl e)))
theorem frT_FX12_keep_104 {h0 : ph_H}  : ∀ (q : Nat) (y0 : Int32) (y1 : Int32) (h : ph_H), EQ pT h0 h → EQ pT h0 (FX12_keep_104  q y0 y1 h) := by
  intro q
  induction q with
  | zero =>
    intro y0 y1 h e
    exact e
  | succ q ih =>
    intro y0 y1 h e
    exact (EQ_if (frT_FX12_keep_171   _ _ _ _ e) (ih _ _ _ (EQ_s rfl (EQ_s rfl (EQ_s rfl e)))))
theorem frT_FX12_keep_50 {h0 : ph_H}  : ∀ (q : Nat) (y0 : Int32) (y1 : Int32) (h : ph_H), EQ pT h0 h → EQ pT h0 (FX12_keep_50  q y0 y1 h) := by
  intro q
  induction q with
  | zero =>
    intro y0 y1 h e
    exact e
  | succ q ih =>
    intro y0 y1 h e
    exact (EQ_if (frT_FX12_keep_104   _ _ _ _ (EQ_s rfl e)) (ih _ _ _ (EQ_s rfl (EQ_s rfl e))))
theorem frT_FX12_keep_2 {h0 : ph_H}  : ∀ (q : Nat) (y0 : Int32) (y1 : Int32) (h : ph_H), EQ pT h0 h → EQ pT h0 (FX12_keep_2  q y0 y1 h) := by
  intro q
  induction q with
  | zero =>
    intro y0 y1 h e
    exact e
  | succ q ih =>
    intro y0 y1 h e
    exact (EQ_if (frT_FX12_keep_50   _ _ _ _ e) (ih _ _ _ (EQ_s rfl (EQ_s rfl e))))
theorem frT_FX12_keep {h0 : ph_H} (a0 : Int32) (h : ph_H) (e : EQ pT h0 h) : EQ pT h0 (FX12_keep a0 h) := (frT_FX12_keep_2   _ _ _ _ e)
theorem frT_FX12_stepKept_182 {h0 : ph_H} (s0 : Int32) (s1 : Int32) (h : ph_H) (e : EQ pT h0 h) : EQ pT h0 (FX12_stepKept_182 s0 s1 h) := (frT_FX12_keep _  _ (EQ_s rfl (EQ_s rfl e)))
theorem frT_FX12_stepKept_158 {h0 : ph_H} (s0 : Int32) (s1 : Int32) (h : ph_H) (e : EQ pT h0 h) : EQ pT h0 (FX12_stepKept_158 s0 s1 h) := (EQ_if (frT_FX12_stepKept_182 _ _  _ (EQ_s rfl e)) (frT_FX12_stepKept_182 _ _  _ (EQ_s rfl e)))
theorem frT_FX12_stepKept_133 {h0 : ph_H} (s0 : Int32) (s1 : Int32) (h : ph_H) (e : EQ pT h0 h) : EQ pT h0 (FX12_stepKept_133 s0 s1 h) := (EQ_if (frT_FX12_stepKept_158 _ _  _ (EQ_s rfl e)) (frT_FX12_stepKept_158 _ _  _ (EQ_s rfl e)))
theorem frT_FX12_stepKept_73 {h0 : ph_H} (x1 : Int32) (h : ph_H) (e : EQ pT h0 h) : EQ pT h0 (FX12_stepKept_73 x1 h) := (EQ_if (frT_FX12_stepKept_133 _ _  _ (EQ_s rfl (EQ_s rfl (EQ_s rfl e)))) (frT_FX12_stepKept_133 _ _  _ (EQ_s rfl (EQ_s rfl (EQ_s rfl e)))))
theorem frT_FX12_stepKept_53 {h0 : ph_H} (x1 : Int32) (x3 : Int32) (h : ph_H) (e : EQ pT h0 h) : EQ pT h0 (FX12_stepKept_53 x1 x3 h) := (EQ_if (frT_FX12_stepKept_73 _  _ e) (frT_FX12_stepKept_73 _  _ (EQ_s rfl e)))
theorem frT_FX12_stepKept_48 {h0 : ph_H} (x1 : Int32) (x3 : Int32) (h : ph_H) (e : EQ pT h0 h) : EQ pT h0 (FX12_stepKept_48 x1 x3 h) := (frT_FX12_stepKept_53 _ _  _ (frT_FX12_step _  _ e))
theorem frT_FX12_stepKept {h0 : ph_H} (a0 : Int32) (h : ph_H) (e : EQ pT h0 h) : EQ pT h0 (FX12_stepKept a0 h) := (EQ_if (frT_FX12_stepKept_48 _ _  _ e) (frT_FX12_stepKept_48 _ _  _ (EQ_s rfl (EQ_s rfl (EQ_s rfl e)))))
def pK4 (k i : Nat) : Bool := match k with
  | 25 => false
  | 26 => false
  | 27 => false
  | 28 => false
  | _ => true
theorem fr4_FX12_keep_171 {h0 : ph_H}  : ∀ (q : Nat) (y0 : Int32) (y1 : Int32) (h : ph_H), EQ pK4 h0 h → EQ pK4 h0 (FX12_keep_171  q y0 y1 h) := by
  intro q
  induction q with
  | zero =>
    intro y0 y1 h e
    exact e
  | succ q ih =>
    intro y0 y1 h e
    exact (EQ_if e (ih _ _ _ (EQ_s rfl e)))
theorem fr4_FX12_keep_104 {h0 : ph_H}  : ∀ (q : Nat) (y0 : Int32) (y1 : Int32) (h : ph_H), EQ pK4 h0 h → EQ pK4 h0 (FX12_keep_104  q y0 y1 h) := by
  intro q
  induction q with
  | zero =>
    intro y0 y1 h e
    exact e
  | succ q ih =>
    intro y0 y1 h e
    exact (EQ_if (fr4_FX12_keep_171   _ _ _ _ e) (ih _ _ _ (EQ_s rfl (EQ_s rfl (EQ_s rfl e)))))
def pK28 (k i : Nat) : Bool := match k with
  | 28 => false
  | _ => true
theorem fr28_FX12_keep_171 {h0 : ph_H}  : ∀ (q : Nat) (y0 : Int32) (y1 : Int32) (h : ph_H), EQ pK28 h0 h → EQ pK28 h0 (FX12_keep_171  q y0 y1 h) := by
  intro q
  induction q with
  | zero =>
    intro y0 y1 h e
    exact e
  | succ q ih =>
    intro y0 y1 h e
    exact (EQ_if e (ih _ _ _ (EQ_s rfl e)))
end MG_48_x08F0
section MG_48_x09A9
/-! THE RECORD of a run on both sides -/
theorem kp2 : ∀ (q : Nat) (s x : Int32) (g : ph_H), iv 0 300 s → iv 0 28 x → 28 - x.toInt < (q : Int) → (∀ k : Nat, x.toInt ≤ k → k < 28 → FX12_keep_2 q s x g 20 (28 * s.toNatClampNeg + k) = g 10 k ∧ FX12_keep_2 q s x g 21 (28 * s.toNatClampNeg + k) = g 11 k) ∧ (∀ j : Nat, (j : Int) < 28 * s.toInt + x.toInt → FX12_keep_2 q s x g 20 j = g 20 j ∧ FX12_keep_2 q s x g 21 j = g 21 j)
  | 0, s, x, g, f, fx, m => by unfold iv at fx; omega
  | q + 1, s, x, g, f, fx, m => by
    have k1 : (1 : Int32).toInt = 1 := by decide
    have k28 : (28 : Int32).toInt = 28 := by decide
    have sn := iv_nat f rfl
    have xn := iv_nat fx rfl
    have f' := f
    unfold iv at f fx
    unfold FX12_keep_2
    by_cases c : 28 ≤ x
    · rw [if_pos c]
      rw [Int32.le_iff_toInt_le, k28] at c
      have e : EQ pK5 g (FX12_keep_50 2000 s 0 g) := fr5_FX12_keep_50 _ _ _ _ (EQ_r g)
      exact ⟨fun k a b => by omega, fun j _ => ⟨e 20 j rfl, e 21 j rfl⟩⟩
    · rw [if_neg c]
      rw [Int32.le_iff_toInt_le, k28] at c
      have e1 : (x + 1).toInt = x.toInt + 1 := by rw [ti_add (by omega) (by omega), k1]
      have em : (28 * s).toInt = 28 * s.toInt := by rw [ti_mul (by rw [k28]; omega) (by rw [k28]; omega), k28]
      have ea : (28 * s + x).toInt = 28 * s.toInt + x.toInt := by rw [ti_add (by omega) (by omega), em]
      have ix : ((28 * s + x).toNatClampNeg : Int) = 28 * s.toInt + x.toInt := by
        rw [← Int32.toNat_toInt]
        omega
      obtain ⟨a1, a2⟩ := kp2 q s (x + 1) (hs (hs g 20 (28 * s + x).toNatClampNeg (g 10 x.toNatClampNeg)) 21 (28 * s + x).toNatClampNeg (g 11 x.toNatClampNeg)) f' (by unfold iv; omega) (by omega)
      refine ⟨fun k hk hk2 => ?_, fun j hj => ?_⟩
      · by_cases d : (k : Int) = x.toInt
        · have kx : k = x.toNatClampNeg := by omega
          have ii : 28 * s.toNatClampNeg + k = (28 * s + x).toNatClampNeg := by omega
          obtain ⟨b1, b2⟩ := a2 (28 * s.toNatClampNeg + k) (by omega)
          rw [b1, b2, ii, kx]
          refine ⟨?_, ?_⟩
          · rw [hs_o (by simp), hs_self]
          · rw [hs_self]
        · obtain ⟨b1, b2⟩ := a1 k (by omega) hk2
          rw [b1, b2]
          refine ⟨?_, ?_⟩
          · rw [hs_o (by simp), hs_o (by simp)]
          · rw [hs_o (by simp), hs_o (by simp)]
      · obtain ⟨b1, b2⟩ := a2 j (by omega)
        rw [b1, b2]
        refine ⟨?_, ?_⟩
        · rw [hs_o (by simp), hs_o (fun w => by omega)]
        · rw [hs_o (fun w => by omega), hs_o (by simp)]
/-- what a step of a run leaves of the reference -/
def cg1 (t : Int32) (g : ph_H) : ph_H := if t = g 0 26 then g else hs (hs (hs g 37 (g 0 60).toNatClampNeg (g 0 24)) 38 (g 0 60).toNatClampNeg t) 0 60 (g 0 60 + 1)
def kI (x3 : Int32) (g : ph_H) : ph_H := if g 0 23 ≤ x3 then g else hs g 36 x3.toNatClampNeg (g 7 x3.toNatClampNeg)
def kW (t : Int32) (g : ph_H) : ph_H := hs (hs (hs (hs (hs (hs (hs g 29 (g 0 24).toNatClampNeg t) 30 (g 0 24).toNatClampNeg (g 0 27)) 31 (g 0 24).toNatClampNeg (g 0 28)) 32 (g 0 24).toNatClampNeg (if g 0 25 ≤ 0 then g 0 29 else -2)) 33 (g 0 24).toNatClampNeg (if g 0 25 ≤ 0 then g 0 30 else -2)) 34 (g 0 24).toNatClampNeg (if g 0 25 ≤ 0 then g 0 31 else 0)) 35 (g 0 24).toNatClampNeg (g 0 32)
theorem sk_eq (t : Int32) (g : ph_H) : FX12_stepKept t g = FX12_keep (FX12_step t (cg1 t g) 0 24) (kW t (kI (g 0 23) (FX12_step t (cg1 t g)))) := by
  have a : ∀ x3 g, FX12_stepKept_48 t x3 g = FX12_keep (FX12_step t g 0 24) (kW t (kI x3 (FX12_step t g))) := fun x3 g => by
    unfold FX12_stepKept_48 FX12_stepKept_53 kI
    generalize FX12_step t g = G
    have b : ∀ G, FX12_stepKept_73 t G = FX12_keep (G 0 24) (kW t G) := fun G => by
      unfold FX12_stepKept_73 FX12_stepKept_133 FX12_stepKept_158 FX12_stepKept_182 kW
      by_cases c : G 0 25 ≤ 0
      · simp (decide := true) only [c, hs_get, ↓reduceIte]
      · simp (decide := true) only [c, hs_get, ↓reduceIte]
    split
    · rw [b]
    · rw [b, hs_o (by simp)]
  unfold FX12_stepKept cg1
  split
  · exact a _ _
  · exact a _ _
def TRs (h g : ph_H) (s : Nat) : Prop := h 36 s = g 29 s ∧ h 37 s = g 30 s ∧ h 38 s = g 31 s ∧ h 39 s = g 32 s ∧ h 40 s = g 33 s ∧ h 43 s = g 34 s ∧ (¬ g 34 s = 0 → ¬ g 34 s = 3 → h 44 s = g 35 s) ∧ (0 ≤ (g 33 s).toInt → (g 33 s).toInt < 12 → h 41 s = g 20 (28 * s + (g 33 s).toNatClampNeg) ∧ h 42 s = g 21 (28 * s + (g 33 s).toNatClampNeg)) ∧ PLp (g 32 s) ∧ PLp (g 33 s)
def TR (h g : ph_H) : Prop := h 35 11 = g 0 24 ∧ h 35 12 = g 0 60 ∧ h 35 14 = g 0 25 ∧ (∀ s : Nat, 0 < s → (s : Int) ≤ (g 0 24).toInt → TRs h g s) ∧ (∀ i : Nat, (i : Int) < (g 0 60).toInt → h 45 i = g 37 i ∧ h 46 i = g 38 i) ∧ FX10_latestThread h = g 0 26
end MG_48_x09A9
