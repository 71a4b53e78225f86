/-! BEGIN on both sides -/
theorem fill_16o2 : ∀ (q : Nat) (v x n : Int32) (h : ph_H), 0 ≤ x.toInt → x.toInt ≤ n.toInt → n.toInt ≤ 1000 → n.toInt - x.toInt < (q : Int) → (∀ k i, ¬ k = 26 → FJ7_fill_53178_k26_5 q v x n h k i = h k i) ∧ (∀ i : Nat, x.toInt ≤ i → (i : Int) < n.toInt → FJ7_fill_53178_k26_5 q v x n h 26 i = v) ∧ (∀ i : Nat, (i : Int) < x.toInt → FJ7_fill_53178_k26_5 q v x n h 26 i = h 26 i)
  | 0, v, x, n, h, a, b, c, m => by omega
  | q + 1, v, x, n, h, a, b, c, m => by
    have k1 : (1 : Int32).toInt = 1 := by decide
    unfold FJ7_fill_53178_k26_5
    by_cases d : n ≤ x
    · rw [if_pos d]
      rw [Int32.le_iff_toInt_le] at d
      exact ⟨fun _ _ _ => rfl, fun i e f => by omega, fun _ _ => rfl⟩
    · rw [if_neg d]
      rw [Int32.le_iff_toInt_le] at d
      have e1 : (x + 1).toInt = x.toInt + 1 := by rw [ti_add (by omega) (by omega), k1]
      have xn : (x.toNatClampNeg : Int) = x.toInt := by
        rw [← Int32.toNat_toInt]
        omega
      obtain ⟨a1, a2, a3⟩ := fill_16o2 q v (x + 1) n (hs h 26 x.toNatClampNeg v) (by omega) (by omega) c (by omega)
      refine ⟨fun k i e => ?_, fun i e f => ?_, fun i e => ?_⟩
      · rw [a1 k i e, hs_o (fun w => e w.1)]
      · by_cases g : (i : Int) = x.toInt
        · rw [a3 i (by omega), hs_get, if_pos rfl, if_pos (by omega)]
        · exact a2 i (by omega) f
      · rw [a3 i (by omega), hs_o (fun w => by omega)]
theorem fill_17o2 : ∀ (q : Nat) (v x n : Int32) (h : ph_H), 0 ≤ x.toInt → x.toInt ≤ n.toInt → n.toInt ≤ 1000 → n.toInt - x.toInt < (q : Int) → (∀ k i, ¬ k = 27 → FJ7_fill_53178_k27_5 q v x n h k i = h k i) ∧ (∀ i : Nat, x.toInt ≤ i → (i : Int) < n.toInt → FJ7_fill_53178_k27_5 q v x n h 27 i = v) ∧ (∀ i : Nat, (i : Int) < x.toInt → FJ7_fill_53178_k27_5 q v x n h 27 i = h 27 i)
  | 0, v, x, n, h, a, b, c, m => by omega
  | q + 1, v, x, n, h, a, b, c, m => by
    have k1 : (1 : Int32).toInt = 1 := by decide
    unfold FJ7_fill_53178_k27_5
    by_cases d : n ≤ x
    · rw [if_pos d]
      rw [Int32.le_iff_toInt_le] at d
      exact ⟨fun _ _ _ => rfl, fun i e f => by omega, fun _ _ => rfl⟩
    · rw [if_neg d]
      rw [Int32.le_iff_toInt_le] at d
      have e1 : (x + 1).toInt = x.toInt + 1 := by rw [ti_add (by omega) (by omega), k1]
      have xn : (x.toNatClampNeg : Int) = x.toInt := by
        rw [← Int32.toNat_toInt]
        omega
      obtain ⟨a1, a2, a3⟩ := fill_17o2 q v (x + 1) n (hs h 27 x.toNatClampNeg v) (by omega) (by omega) c (by omega)
      refine ⟨fun k i e => ?_, fun i e f => ?_, fun i e => ?_⟩
      · rw [a1 k i e, hs_o (fun w => e w.1)]
      · by_cases g : (i : Int) = x.toInt
        · rw [a3 i (by omega), hs_get, if_pos rfl, if_pos (by omega)]
        · exact a2 i (by omega) f
      · rw [a3 i (by omega), hs_o (fun w => by omega)]
theorem fill_18o2 : ∀ (q : Nat) (v x n : Int32) (h : ph_H), 0 ≤ x.toInt → x.toInt ≤ n.toInt → n.toInt ≤ 1000 → n.toInt - x.toInt < (q : Int) → (∀ k i, ¬ k = 28 → FJ7_fill_53178_k28_5 q v x n h k i = h k i) ∧ (∀ i : Nat, x.toInt ≤ i → (i : Int) < n.toInt → FJ7_fill_53178_k28_5 q v x n h 28 i = v) ∧ (∀ i : Nat, (i : Int) < x.toInt → FJ7_fill_53178_k28_5 q v x n h 28 i = h 28 i)
  | 0, v, x, n, h, a, b, c, m => by omega
  | q + 1, v, x, n, h, a, b, c, m => by
    have k1 : (1 : Int32).toInt = 1 := by decide
    unfold FJ7_fill_53178_k28_5
    by_cases d : n ≤ x
    · rw [if_pos d]
      rw [Int32.le_iff_toInt_le] at d
      exact ⟨fun _ _ _ => rfl, fun i e f => by omega, fun _ _ => rfl⟩
    · rw [if_neg d]
      rw [Int32.le_iff_toInt_le] at d
      have e1 : (x + 1).toInt = x.toInt + 1 := by rw [ti_add (by omega) (by omega), k1]
      have xn : (x.toNatClampNeg : Int) = x.toInt := by
        rw [← Int32.toNat_toInt]
        omega
      obtain ⟨a1, a2, a3⟩ := fill_18o2 q v (x + 1) n (hs h 28 x.toNatClampNeg v) (by omega) (by omega) c (by omega)
      refine ⟨fun k i e => ?_, fun i e f => ?_, fun i e => ?_⟩
      · rw [a1 k i e, hs_o (fun w => e w.1)]
      · by_cases g : (i : Int) = x.toInt
        · rw [a3 i (by omega), hs_get, if_pos rfl, if_pos (by omega)]
        · exact a2 i (by omega) f
      · rw [a3 i (by omega), hs_o (fun w => by omega)]
theorem fill_19o2 : ∀ (q : Nat) (v x n : Int32) (h : ph_H), 0 ≤ x.toInt → x.toInt ≤ n.toInt → n.toInt ≤ 1000 → n.toInt - x.toInt < (q : Int) → (∀ k i, ¬ k = 29 → FJ7_fill_53178_k29_5 q v x n h k i = h k i) ∧ (∀ i : Nat, x.toInt ≤ i → (i : Int) < n.toInt → FJ7_fill_53178_k29_5 q v x n h 29 i = v) ∧ (∀ i : Nat, (i : Int) < x.toInt → FJ7_fill_53178_k29_5 q v x n h 29 i = h 29 i)
  | 0, v, x, n, h, a, b, c, m => by omega
  | q + 1, v, x, n, h, a, b, c, m => by
    have k1 : (1 : Int32).toInt = 1 := by decide
    unfold FJ7_fill_53178_k29_5
    by_cases d : n ≤ x
    · rw [if_pos d]
      rw [Int32.le_iff_toInt_le] at d
      exact ⟨fun _ _ _ => rfl, fun i e f => by omega, fun _ _ => rfl⟩
    · rw [if_neg d]
      rw [Int32.le_iff_toInt_le] at d
      have e1 : (x + 1).toInt = x.toInt + 1 := by rw [ti_add (by omega) (by omega), k1]
      have xn : (x.toNatClampNeg : Int) = x.toInt := by
        rw [← Int32.toNat_toInt]
        omega
      obtain ⟨a1, a2, a3⟩ := fill_19o2 q v (x + 1) n (hs h 29 x.toNatClampNeg v) (by omega) (by omega) c (by omega)
      refine ⟨fun k i e => ?_, fun i e f => ?_, fun i e => ?_⟩
      · rw [a1 k i e, hs_o (fun w => e w.1)]
      · by_cases g : (i : Int) = x.toInt
        · rw [a3 i (by omega), hs_get, if_pos rfl, if_pos (by omega)]
        · exact a2 i (by omega) f
      · rw [a3 i (by omega), hs_o (fun w => by omega)]
theorem cbego2 (kv : Int32) (h : ph_H) : (∀ i, i < 28 → FX3_begin_ot kv h 26 i = 0) ∧ (∀ i, i < 28 → FX3_begin_ot kv h 27 i = if i < 12 then h 11 i else 0) ∧ (∀ t, t < 4 → FX3_begin_ot kv h 28 t = 0) ∧ (∀ t, t < 4 → FX3_begin_ot kv h 29 t = if t = 0 then 1 else 0) ∧ FX3_begin_ot kv h 25 10 = 0 ∧ FX3_begin_ot kv h 25 11 = kv ∧ FX3_begin_ot kv h 25 12 = 0 ∧ (∀ k i, ¬ (25 ≤ k ∧ k ≤ 29) → FX3_begin_ot kv h k i = h k i) := by
  have k28 : (28 : Int32).toInt = 28 := by decide
  have k4 : (4 : Int32).toInt = 4 := by decide
  have k0 : (0 : Int32).toInt = 0 := by decide
  have n0 : (0 : Int32).toNatClampNeg = 0 := by decide
  have n12 : (12 : Int32).toNatClampNeg = 12 := by decide
  unfold FX3_begin_ot FX3_begin_ot_13 FX3_begin_ot_21 FX3_begin_ot_44 FX3_begin_ot_52 FJ7_fill_53178_k26 FJ7_fill_53178_k27 FJ7_fill_53178_k28 FJ7_fill_53178_k29
  obtain ⟨a1, a2, -⟩ := fill_16o2 2000 0 0 28 h (by decide) (by decide) (by decide) (by decide)
  generalize FJ7_fill_53178_k26_5 2000 0 0 28 h = h1 at *
  obtain ⟨b1, b2, -⟩ := fill_17o2 2000 0 0 28 h1 (by decide) (by decide) (by decide) (by decide)
  generalize FJ7_fill_53178_k27_5 2000 0 0 28 h1 = h2 at *
  have c0 : ∀ k i, ¬ k = 27 → hc h2 11 27 0 0 12 k i = h2 k i := fun k i e => hc_o e
  have c1 : ∀ i, hc h2 11 27 0 0 12 27 i = if i < 12 then h2 11 i else h2 27 i := fun i => by
    rw [hc_at, n12]
  generalize hc h2 11 27 0 0 12 = h3 at *
  obtain ⟨d1, d2, -⟩ := fill_18o2 2000 0 0 4 h3 (by decide) (by decide) (by decide) (by decide)
  generalize FJ7_fill_53178_k28_5 2000 0 0 4 h3 = h4 at *
  obtain ⟨e1, e2, -⟩ := fill_19o2 2000 0 0 4 h4 (by decide) (by decide) (by decide) (by decide)
  generalize FJ7_fill_53178_k29_5 2000 0 0 4 h4 = h5 at *
  rw [n0]
  refine ⟨fun i hi => ?_, fun i hi => ?_, fun t ht => ?_, fun t ht => ?_, ?_, ?_, ?_, fun k i q => ?_⟩
  · rw [hs_o (by simp), hs_o (by simp), hs_o (by simp), hs_o (by simp), e1 _ _ (by decide), d1 _ _ (by decide), c0 _ _ (by decide), b1 _ _ (by decide), a2 i (by omega) (by omega)]
  · rw [hs_o (by simp), hs_o (by simp), hs_o (by simp), hs_o (by simp), e1 _ _ (by decide), d1 _ _ (by decide), c1 i, b1 _ _ (by decide), a1 _ _ (by decide), b2 i (by omega) (by omega)]
  · rw [hs_o (by simp), hs_o (by simp), hs_o (by simp), hs_o (by simp), e1 _ _ (by decide), d2 t (by omega) (by omega)]
  · rw [hs_o (by simp), hs_o (by simp), hs_o (by simp), hs_get, if_pos rfl]
    by_cases c : t = 0
    · rw [if_pos c, if_pos c]
    · rw [if_neg c, if_neg c, e2 t (by omega) (by omega)]
  · rw [hs_o (by simp), hs_o (by simp), hs_self]
  · rw [hs_o (by simp), hs_self]
  · rw [hs_self]
  · rw [hs_o (by omega), hs_o (by omega), hs_o (by omega), hs_o (by omega), e1 _ _ (by omega), d1 _ _ (by omega), c0 _ _ (by omega), b1 _ _ (by omega), a1 _ _ (by omega)]
def PRo2 (h g : ph_H) : Prop := Rpro2 h g ∧ (∀ c, c < 12 → h 11 c = g 6 c) ∧ (∀ i, iv 0 19 (g 2 i))
theorem begin_RCo2 {h g : ph_H} {kv : Int32} (p : PRo2 h g) (e : kv = kn g) (n : 0 ≤ (kn g).toInt) (v : ∀ k : Nat, (k : Int) < (kn g).toInt → h 12 k = vi g k) : RCo2 (FX3_begin_ot kv h) (FX12_begin g) := by
  obtain ⟨c1, c2, c3, c4, c5, c6, c7, c8⟩ := cbego2 kv h
  obtain ⟨r1, r2, r3, r4⟩ := rbeg g
  have k0 : (0 : Int32).toInt = 0 := by decide
  have kn1 : (-1 : Int32).toInt = -1 := by decide
  have ek : kn (FX12_begin g) = kn g := by
    unfold kn
    rw [r4, r4, r4]
    simp
  have ev : ∀ k, vi (FX12_begin g) k = vi g k := fun k => by
    unfold vi
    rw [r4, r3 7 k (by decide) (by decide), r3 36 k (by decide) (by decide)]
    simp
  have e18 : FX12_begin g 0 18 = 0 := by rw [r4]; simp
  have e23 : FX12_begin g 0 23 = 0 := by rw [r4]; simp
  refine ⟨fun i hi => ?_, fun t ht => ?_, fun t ht => ?_, ⟨?_, fun x hx => ?_⟩, ⟨?_, ?_, ?_, fun k hk => ?_⟩, ⟨fun t ht => ?_, fun i hi => ?_⟩, ⟨fun k hk => ?_, fun t ht => ?_, fun i => ?_⟩⟩
  · obtain ⟨a, b⟩ := r1 i hi
    rw [c1 i hi, c2 i hi, a, b]
    refine ⟨rfl, ?_⟩
    by_cases c : i < 12
    · rw [if_pos c, if_pos c]
      exact p.2.1 i c
    · rw [if_neg c, if_neg c]
  · rw [c3 t ht, (r2 t ht).1, r3 1 t (by decide) (by decide)]
    unfold nrm
    rw [if_neg (by decide)]
    by_cases c : g 1 t ≤ 0
    · rw [if_pos c, if_neg (fun w => by
        rw [Int32.lt_iff_toInt_lt] at w
        rw [Int32.le_iff_toInt_le] at c
        omega)]
    · rw [if_neg c, if_pos (nle c)]
  · obtain ⟨a, b, c, d⟩ := r2 t ht
    rw [c4 t ht, b, c, d]
    by_cases w : t = 0
    · rw [if_pos w]
      exact Or.inr (Or.inl ⟨rfl, rfl, rfl, rfl⟩)
    · rw [if_neg w]
      exact Or.inl ⟨rfl, rfl, rfl, rfl⟩
  · rw [c5, e18]
  · rw [e18, k0] at hx
    omega
  · rw [c7, e23]
  · rw [c6, ek, e]
  · rw [e23, ek, k0]
    exact n
  · rw [c8 _ _ (by decide), ev]
    exact v k (by rw [ek] at hk; exact hk)
  · rw [c8 _ _ (by decide), r3 1 t (by decide) (by decide)]
    exact p.1.1 t ht
  · rw [c8 _ _ (by decide), c8 _ _ (by decide), c8 _ _ (by decide), c8 _ _ (by decide), r3 2 i (by decide) (by decide), r3 3 i (by decide) (by decide), r3 4 i (by decide) (by decide), r3 5 i (by decide) (by decide)]
    exact p.1.2 i hi
  · exact Or.inl (r1 k hk).1
  · obtain ⟨a, b, c, d⟩ := r2 t ht
    rw [c, d, e18, k0, kn1]
    omega
  · rw [r3 2 i (by decide) (by decide)]
    exact p.2.2 i
