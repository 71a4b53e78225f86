/-! BEGIN on both sides -/
theorem hc_at (h : ph_H) (k0 k1 : Nat) (m : Int32) (i : Nat) : hc h k0 k1 0 0 m k1 i = if i < m.toNatClampNeg then h k0 i else h k1 i := by
  have z : (0 : Int32).toNatClampNeg = 0 := by decide
  unfold hc
  rw [va_up_self, z]
  unfold va_cpy
  by_cases c : i < m.toNatClampNeg
  · simp [c]
  · simp [c]
theorem fill_16 : ∀ (q : Nat) (v x n : Int32) (h : ph_H), 0 ≤ x.toInt → x.toInt ≤ n.toInt → n.toInt ≤ 1000 → n.toInt - x.toInt < (q : Int) → (∀ k i, ¬ k = 16 → FJ7_fill_53178_k16_5 q v x n h k i = h k i) ∧ (∀ i : Nat, x.toInt ≤ i → (i : Int) < n.toInt → FJ7_fill_53178_k16_5 q v x n h 16 i = v) ∧ (∀ i : Nat, (i : Int) < x.toInt → FJ7_fill_53178_k16_5 q v x n h 16 i = h 16 i)
  | 0, v, x, n, h, a, b, c, m => by omega
  | q + 1, v, x, n, h, a, b, c, m => by
    have k1 : (1 : Int32).toInt = 1 := by decide
    unfold FJ7_fill_53178_k16_5
    by_cases d : n ≤ x
    · rw [if_pos d]
      rw [Int32.le_iff_toInt_le] at d
      exact ⟨fun _ _ _ => rfl, fun i e f => by omega, fun _ _ => rfl⟩
    · rw [if_neg d]
      rw [Int32.le_iff_toInt_le] at d
      have e1 : (x + 1).toInt = x.toInt + 1 := by rw [ti_add (by omega) (by omega), k1]
      have xn : (x.toNatClampNeg : Int) = x.toInt := by
        rw [← Int32.toNat_toInt]
        omega
      obtain ⟨a1, a2, a3⟩ := fill_16 q v (x + 1) n (hs h 16 x.toNatClampNeg v) (by omega) (by omega) c (by omega)
      refine ⟨fun k i e => ?_, fun i e f => ?_, fun i e => ?_⟩
      · rw [a1 k i e, hs_o (fun w => e w.1)]
      · by_cases g : (i : Int) = x.toInt
        · rw [a3 i (by omega), hs_get, if_pos rfl, if_pos (by omega)]
        · exact a2 i (by omega) f
      · rw [a3 i (by omega), hs_o (fun w => by omega)]
theorem fill_17 : ∀ (q : Nat) (v x n : Int32) (h : ph_H), 0 ≤ x.toInt → x.toInt ≤ n.toInt → n.toInt ≤ 1000 → n.toInt - x.toInt < (q : Int) → (∀ k i, ¬ k = 17 → FJ7_fill_53178_k17_5 q v x n h k i = h k i) ∧ (∀ i : Nat, x.toInt ≤ i → (i : Int) < n.toInt → FJ7_fill_53178_k17_5 q v x n h 17 i = v) ∧ (∀ i : Nat, (i : Int) < x.toInt → FJ7_fill_53178_k17_5 q v x n h 17 i = h 17 i)
  | 0, v, x, n, h, a, b, c, m => by omega
  | q + 1, v, x, n, h, a, b, c, m => by
    have k1 : (1 : Int32).toInt = 1 := by decide
    unfold FJ7_fill_53178_k17_5
    by_cases d : n ≤ x
    · rw [if_pos d]
      rw [Int32.le_iff_toInt_le] at d
      exact ⟨fun _ _ _ => rfl, fun i e f => by omega, fun _ _ => rfl⟩
    · rw [if_neg d]
      rw [Int32.le_iff_toInt_le] at d
      have e1 : (x + 1).toInt = x.toInt + 1 := by rw [ti_add (by omega) (by omega), k1]
      have xn : (x.toNatClampNeg : Int) = x.toInt := by
        rw [← Int32.toNat_toInt]
        omega
      obtain ⟨a1, a2, a3⟩ := fill_17 q v (x + 1) n (hs h 17 x.toNatClampNeg v) (by omega) (by omega) c (by omega)
      refine ⟨fun k i e => ?_, fun i e f => ?_, fun i e => ?_⟩
      · rw [a1 k i e, hs_o (fun w => e w.1)]
      · by_cases g : (i : Int) = x.toInt
        · rw [a3 i (by omega), hs_get, if_pos rfl, if_pos (by omega)]
        · exact a2 i (by omega) f
      · rw [a3 i (by omega), hs_o (fun w => by omega)]
theorem fill_18 : ∀ (q : Nat) (v x n : Int32) (h : ph_H), 0 ≤ x.toInt → x.toInt ≤ n.toInt → n.toInt ≤ 1000 → n.toInt - x.toInt < (q : Int) → (∀ k i, ¬ k = 18 → FJ7_fill_53178_k18_5 q v x n h k i = h k i) ∧ (∀ i : Nat, x.toInt ≤ i → (i : Int) < n.toInt → FJ7_fill_53178_k18_5 q v x n h 18 i = v) ∧ (∀ i : Nat, (i : Int) < x.toInt → FJ7_fill_53178_k18_5 q v x n h 18 i = h 18 i)
  | 0, v, x, n, h, a, b, c, m => by omega
  | q + 1, v, x, n, h, a, b, c, m => by
    have k1 : (1 : Int32).toInt = 1 := by decide
    unfold FJ7_fill_53178_k18_5
    by_cases d : n ≤ x
    · rw [if_pos d]
      rw [Int32.le_iff_toInt_le] at d
      exact ⟨fun _ _ _ => rfl, fun i e f => by omega, fun _ _ => rfl⟩
    · rw [if_neg d]
      rw [Int32.le_iff_toInt_le] at d
      have e1 : (x + 1).toInt = x.toInt + 1 := by rw [ti_add (by omega) (by omega), k1]
      have xn : (x.toNatClampNeg : Int) = x.toInt := by
        rw [← Int32.toNat_toInt]
        omega
      obtain ⟨a1, a2, a3⟩ := fill_18 q v (x + 1) n (hs h 18 x.toNatClampNeg v) (by omega) (by omega) c (by omega)
      refine ⟨fun k i e => ?_, fun i e f => ?_, fun i e => ?_⟩
      · rw [a1 k i e, hs_o (fun w => e w.1)]
      · by_cases g : (i : Int) = x.toInt
        · rw [a3 i (by omega), hs_get, if_pos rfl, if_pos (by omega)]
        · exact a2 i (by omega) f
      · rw [a3 i (by omega), hs_o (fun w => by omega)]
theorem fill_19 : ∀ (q : Nat) (v x n : Int32) (h : ph_H), 0 ≤ x.toInt → x.toInt ≤ n.toInt → n.toInt ≤ 1000 → n.toInt - x.toInt < (q : Int) → (∀ k i, ¬ k = 19 → FJ7_fill_53178_k19_5 q v x n h k i = h k i) ∧ (∀ i : Nat, x.toInt ≤ i → (i : Int) < n.toInt → FJ7_fill_53178_k19_5 q v x n h 19 i = v) ∧ (∀ i : Nat, (i : Int) < x.toInt → FJ7_fill_53178_k19_5 q v x n h 19 i = h 19 i)
  | 0, v, x, n, h, a, b, c, m => by omega
  | q + 1, v, x, n, h, a, b, c, m => by
    have k1 : (1 : Int32).toInt = 1 := by decide
    unfold FJ7_fill_53178_k19_5
    by_cases d : n ≤ x
    · rw [if_pos d]
      rw [Int32.le_iff_toInt_le] at d
      exact ⟨fun _ _ _ => rfl, fun i e f => by omega, fun _ _ => rfl⟩
    · rw [if_neg d]
      rw [Int32.le_iff_toInt_le] at d
      have e1 : (x + 1).toInt = x.toInt + 1 := by rw [ti_add (by omega) (by omega), k1]
      have xn : (x.toNatClampNeg : Int) = x.toInt := by
        rw [← Int32.toNat_toInt]
        omega
      obtain ⟨a1, a2, a3⟩ := fill_19 q v (x + 1) n (hs h 19 x.toNatClampNeg v) (by omega) (by omega) c (by omega)
      refine ⟨fun k i e => ?_, fun i e f => ?_, fun i e => ?_⟩
      · rw [a1 k i e, hs_o (fun w => e w.1)]
      · by_cases g : (i : Int) = x.toInt
        · rw [a3 i (by omega), hs_get, if_pos rfl, if_pos (by omega)]
        · exact a2 i (by omega) f
      · rw [a3 i (by omega), hs_o (fun w => by omega)]
theorem cbeg (kv : Int32) (h : ph_H) : (∀ i, i < 28 → FX3_begin_st kv h 16 i = 0) ∧ (∀ i, i < 28 → FX3_begin_st kv h 17 i = if i < 12 then h 11 i else 0) ∧ (∀ t, t < 4 → FX3_begin_st kv h 18 t = 0) ∧ (∀ t, t < 4 → FX3_begin_st kv h 19 t = if t = 0 then 1 else 0) ∧ FX3_begin_st kv h 15 10 = 0 ∧ FX3_begin_st kv h 15 11 = kv ∧ FX3_begin_st kv h 15 12 = 0 ∧ (∀ k i, ¬ (15 ≤ k ∧ k ≤ 19) → FX3_begin_st kv h k i = h k i) := by
  have k28 : (28 : Int32).toInt = 28 := by decide
  have k4 : (4 : Int32).toInt = 4 := by decide
  have k0 : (0 : Int32).toInt = 0 := by decide
  have n0 : (0 : Int32).toNatClampNeg = 0 := by decide
  have n12 : (12 : Int32).toNatClampNeg = 12 := by decide
  unfold FX3_begin_st FX3_begin_st_13 FX3_begin_st_21 FX3_begin_st_44 FX3_begin_st_52 FJ7_fill_53178_k16 FJ7_fill_53178_k17 FJ7_fill_53178_k18 FJ7_fill_53178_k19
  obtain ⟨a1, a2, -⟩ := fill_16 2000 0 0 28 h (by decide) (by decide) (by decide) (by decide)
  generalize FJ7_fill_53178_k16_5 2000 0 0 28 h = h1 at *
  obtain ⟨b1, b2, -⟩ := fill_17 2000 0 0 28 h1 (by decide) (by decide) (by decide) (by decide)
  generalize FJ7_fill_53178_k17_5 2000 0 0 28 h1 = h2 at *
  have c0 : ∀ k i, ¬ k = 17 → hc h2 11 17 0 0 12 k i = h2 k i := fun k i e => hc_o e
  have c1 : ∀ i, hc h2 11 17 0 0 12 17 i = if i < 12 then h2 11 i else h2 17 i := fun i => by
    rw [hc_at, n12]
  generalize hc h2 11 17 0 0 12 = h3 at *
  obtain ⟨d1, d2, -⟩ := fill_18 2000 0 0 4 h3 (by decide) (by decide) (by decide) (by decide)
  generalize FJ7_fill_53178_k18_5 2000 0 0 4 h3 = h4 at *
  obtain ⟨e1, e2, -⟩ := fill_19 2000 0 0 4 h4 (by decide) (by decide) (by decide) (by decide)
  generalize FJ7_fill_53178_k19_5 2000 0 0 4 h4 = h5 at *
  rw [n0]
  refine ⟨fun i hi => ?_, fun i hi => ?_, fun t ht => ?_, fun t ht => ?_, ?_, ?_, ?_, fun k i q => ?_⟩
  · rw [hs_o (by simp), hs_o (by simp), hs_o (by simp), hs_o (by simp), e1 _ _ (by decide), d1 _ _ (by decide), c0 _ _ (by decide), b1 _ _ (by decide), a2 i (by omega) (by omega)]
  · rw [hs_o (by simp), hs_o (by simp), hs_o (by simp), hs_o (by simp), e1 _ _ (by decide), d1 _ _ (by decide), c1 i, b1 _ _ (by decide), a1 _ _ (by decide), b2 i (by omega) (by omega)]
  · rw [hs_o (by simp), hs_o (by simp), hs_o (by simp), hs_o (by simp), e1 _ _ (by decide), d2 t (by omega) (by omega)]
  · rw [hs_o (by simp), hs_o (by simp), hs_o (by simp), hs_get, if_pos rfl]
    by_cases c : t = 0
    · rw [if_pos c, if_pos c]
    · rw [if_neg c, if_neg c, e2 t (by omega) (by omega)]
  · rw [hs_o (by simp), hs_o (by simp), hs_self]
  · rw [hs_o (by simp), hs_self]
  · rw [hs_self]
  · rw [hs_o (by omega), hs_o (by omega), hs_o (by omega), hs_o (by omega), e1 _ _ (by omega), d1 _ _ (by omega), c0 _ _ (by omega), b1 _ _ (by omega), a1 _ _ (by omega)]
theorem rb45 : ∀ (q : Nat) (x : Int32) (g : ph_H), iv 0 4 x → 4 - x.toInt < (q : Int) → (∀ t : Nat, x.toInt ≤ t → t < 4 → FX12_begin_45 q x g 12 t = (if g 1 t ≤ 0 then 24 else 0) ∧ FX12_begin_45 q x g 13 t = (if t = 0 then 1 else 0) ∧ FX12_begin_45 q x g 14 t = -1 ∧ FX12_begin_45 q x g 15 t = -1) ∧ (∀ t : Nat, (t : Int) < x.toInt → FX12_begin_45 q x g 12 t = g 12 t ∧ FX12_begin_45 q x g 13 t = g 13 t ∧ FX12_begin_45 q x g 14 t = g 14 t ∧ FX12_begin_45 q x g 15 t = g 15 t) ∧ (∀ k i, ¬ k = 0 → ¬ (12 ≤ k ∧ k ≤ 15) → FX12_begin_45 q x g k i = g k i) ∧ (∀ i, FX12_begin_45 q x g 0 i = if i = 18 ∨ i = 23 ∨ i = 24 ∨ i = 25 ∨ i = 26 ∨ i = 35 then 0 else g 0 i)
  | 0, x, g, f, m => by unfold iv at f; omega
  | q + 1, x, g, f, m => by
    have k1 : (1 : Int32).toInt = 1 := by decide
    have k4 : (4 : Int32).toInt = 4 := by decide
    have k0 : (0 : Int32).toInt = 0 := by decide
    have xn := iv_nat f rfl
    unfold iv at f
    have v1 : vp_nar .boolean 1 = 1 := rfl
    have v0 : vp_nar .boolean 0 = 0 := rfl
    unfold FX12_begin_45 FX12_begin_70 FX12_begin_85
    by_cases c : 4 ≤ x
    · rw [if_pos c]
      rw [Int32.le_iff_toInt_le, k4] at c
      refine ⟨fun t a b => by omega, fun t a => ⟨by simp [hs_get], by simp [hs_get], by simp [hs_get], by simp [hs_get]⟩, fun k i a b => by simp [hs_get, a], fun i => ?_⟩
      simp only [hs_get, if_true]
      by_cases c1 : i = 35
      · simp [c1]
      · by_cases c2 : i = 26
        · simp [c2]
        · by_cases c3 : i = 25
          · simp [c3]
          · by_cases c4 : i = 24
            · simp [c4]
            · by_cases c5 : i = 23
              · simp [c5]
              · simp [c1, c2, c3, c4, c5]
    · rw [if_neg c]
      rw [Int32.le_iff_toInt_le, k4] at c
      have e1 : (x + 1).toInt = x.toInt + 1 := by rw [ti_add (by omega) (by omega), k1]

      have fin : ∀ (s a : Int32), s = (if g 1 x.toNatClampNeg ≤ 0 then 24 else 0) → a = (if x = 0 then 1 else 0) → (∀ t : Nat, x.toInt ≤ t → t < 4 → FX12_begin_45 q (x + 1) (hs (hs (hs (hs g 12 x.toNatClampNeg s) 13 x.toNatClampNeg (vp_nar .boolean a)) 14 x.toNatClampNeg (-1)) 15 x.toNatClampNeg (-1)) 12 t = (if g 1 t ≤ 0 then 24 else 0) ∧ FX12_begin_45 q (x + 1) (hs (hs (hs (hs g 12 x.toNatClampNeg s) 13 x.toNatClampNeg (vp_nar .boolean a)) 14 x.toNatClampNeg (-1)) 15 x.toNatClampNeg (-1)) 13 t = (if t = 0 then 1 else 0) ∧ FX12_begin_45 q (x + 1) (hs (hs (hs (hs g 12 x.toNatClampNeg s) 13 x.toNatClampNeg (vp_nar .boolean a)) 14 x.toNatClampNeg (-1)) 15 x.toNatClampNeg (-1)) 14 t = -1 ∧ FX12_begin_45 q (x + 1) (hs (hs (hs (hs g 12 x.toNatClampNeg s) 13 x.toNatClampNeg (vp_nar .boolean a)) 14 x.toNatClampNeg (-1)) 15 x.toNatClampNeg (-1)) 15 t = -1) ∧ (∀ t : Nat, (t : Int) < x.toInt → FX12_begin_45 q (x + 1) (hs (hs (hs (hs g 12 x.toNatClampNeg s) 13 x.toNatClampNeg (vp_nar .boolean a)) 14 x.toNatClampNeg (-1)) 15 x.toNatClampNeg (-1)) 12 t = g 12 t ∧ FX12_begin_45 q (x + 1) (hs (hs (hs (hs g 12 x.toNatClampNeg s) 13 x.toNatClampNeg (vp_nar .boolean a)) 14 x.toNatClampNeg (-1)) 15 x.toNatClampNeg (-1)) 13 t = g 13 t ∧ FX12_begin_45 q (x + 1) (hs (hs (hs (hs g 12 x.toNatClampNeg s) 13 x.toNatClampNeg (vp_nar .boolean a)) 14 x.toNatClampNeg (-1)) 15 x.toNatClampNeg (-1)) 14 t = g 14 t ∧ FX12_begin_45 q (x + 1) (hs (hs (hs (hs g 12 x.toNatClampNeg s) 13 x.toNatClampNeg (vp_nar .boolean a)) 14 x.toNatClampNeg (-1)) 15 x.toNatClampNeg (-1)) 15 t = g 15 t) ∧ (∀ k i, ¬ k = 0 → ¬ (12 ≤ k ∧ k ≤ 15) → FX12_begin_45 q (x + 1) (hs (hs (hs (hs g 12 x.toNatClampNeg s) 13 x.toNatClampNeg (vp_nar .boolean a)) 14 x.toNatClampNeg (-1)) 15 x.toNatClampNeg (-1)) k i = g k i) ∧ (∀ i, FX12_begin_45 q (x + 1) (hs (hs (hs (hs g 12 x.toNatClampNeg s) 13 x.toNatClampNeg (vp_nar .boolean a)) 14 x.toNatClampNeg (-1)) 15 x.toNatClampNeg (-1)) 0 i = if i = 18 ∨ i = 23 ∨ i = 24 ∨ i = 25 ∨ i = 26 ∨ i = 35 then 0 else g 0 i) := fun s a es ea => by
        obtain ⟨a1, a2, a3, a4⟩ := rb45 q (x + 1) (hs (hs (hs (hs g 12 x.toNatClampNeg s) 13 x.toNatClampNeg (vp_nar .boolean a)) 14 x.toNatClampNeg (-1)) 15 x.toNatClampNeg (-1)) (by unfold iv; omega) (by omega)
        generalize FX12_begin_45 q (x + 1) (hs (hs (hs (hs g 12 x.toNatClampNeg s) 13 x.toNatClampNeg (vp_nar .boolean a)) 14 x.toNatClampNeg (-1)) 15 x.toNatClampNeg (-1)) = G at *
        refine ⟨fun t p r => ?_, fun t p => ?_, fun k i p r => ?_, fun i => ?_⟩
        · by_cases d : (t : Int) = x.toInt
          · have dx : t = x.toNatClampNeg := by omega
            obtain ⟨b1, b2, b3, b4⟩ := a2 t (by omega)
            rw [b1, b2, b3, b4]
            refine ⟨?_, ?_, ?_, ?_⟩
            · rw [dx, hs_o (by simp), hs_o (by simp), hs_o (by simp), hs_self, es]
            · rw [dx, hs_o (by simp), hs_o (by simp), hs_self, ea]
              by_cases x0 : x = 0
              · subst x0
                rfl
              · rw [if_neg x0, if_neg (fun w => x0 (tI (by omega)))]
                rfl
            · rw [dx, hs_o (by simp), hs_self]
            · rw [dx, hs_self]
          · have := a1 t (by omega) r
            rw [hs_o (by simp), hs_o (by simp), hs_o (by simp), hs_o (by simp)] at this
            exact this
        · have n : ¬ t = x.toNatClampNeg := by omega
          obtain ⟨b1, b2, b3, b4⟩ := a2 t (by omega)
          rw [b1, b2, b3, b4]
          simp [hs_get, n]
        · rw [a3 k i p r, hs_o (by omega), hs_o (by omega), hs_o (by omega), hs_o (by omega)]
        · rw [a4 i, hs_o (by simp), hs_o (by simp), hs_o (by simp), hs_o (by simp)]
      by_cases d : g 1 x.toNatClampNeg ≤ 0
      · rw [if_pos d]
        by_cases e : x = 0
        · rw [if_pos e]
          exact fin 24 1 (by rw [if_pos d]) (by rw [if_pos e])
        · rw [if_neg e]
          exact fin 24 0 (by rw [if_pos d]) (by rw [if_neg e])
      · rw [if_neg d]
        by_cases e : x = 0
        · rw [if_pos e]
          exact fin 0 1 (by rw [if_neg d]) (by rw [if_pos e])
        · rw [if_neg e]
          exact fin 0 0 (by rw [if_neg d]) (by rw [if_neg e])
theorem rb2 : ∀ (q : Nat) (x : Int32) (g : ph_H), iv 0 28 x → 28 - x.toInt < (q : Int) → ∃ g', FX12_begin_2 q x g = FX12_begin_45 2000 0 g' ∧ (∀ k : Nat, x.toInt ≤ k → k < 28 → g' 10 k = 0 ∧ g' 11 k = if k < 12 then g 6 k else 0) ∧ (∀ k : Nat, (k : Int) < x.toInt → g' 10 k = g 10 k ∧ g' 11 k = g 11 k) ∧ (∀ k i, ¬ k = 10 → ¬ k = 11 → g' k i = g k i)
  | 0, x, g, f, m => by unfold iv at f; omega
  | q + 1, x, g, f, m => by
    have k1 : (1 : Int32).toInt = 1 := by decide
    have k28 : (28 : Int32).toInt = 28 := by decide
    have k12 : (12 : Int32).toInt = 12 := by decide
    have xn := iv_nat f rfl
    unfold iv at f
    unfold FX12_begin_2 FX12_begin_36
    by_cases c : 28 ≤ x
    · rw [if_pos c]
      rw [Int32.le_iff_toInt_le, k28] at c
      exact ⟨g, rfl, fun k a b => by omega, fun _ _ => ⟨rfl, rfl⟩, fun _ _ _ _ => rfl⟩
    · rw [if_neg c]
      rw [Int32.le_iff_toInt_le, k28] at c
      have e1 : (x + 1).toInt = x.toInt + 1 := by rw [ti_add (by omega) (by omega), k1]
      have fin : ∀ s : Int32, s = (if x.toNatClampNeg < 12 then g 6 x.toNatClampNeg else 0) → ∃ g', FX12_begin_2 q (x + 1) (hs (hs g 10 x.toNatClampNeg 0) 11 x.toNatClampNeg s) = FX12_begin_45 2000 0 g' ∧ (∀ k : Nat, x.toInt ≤ k → k < 28 → g' 10 k = 0 ∧ g' 11 k = if k < 12 then g 6 k else 0) ∧ (∀ k : Nat, (k : Int) < x.toInt → g' 10 k = g 10 k ∧ g' 11 k = g 11 k) ∧ (∀ k i, ¬ k = 10 → ¬ k = 11 → g' k i = g k i) := fun s es => by
        obtain ⟨g', a1, a2, a3, a4⟩ := rb2 q (x + 1) (hs (hs g 10 x.toNatClampNeg 0) 11 x.toNatClampNeg s) (by unfold iv; omega) (by omega)
        refine ⟨g', a1, fun k p r => ?_, fun k p => ?_, fun k i p r => ?_⟩
        · by_cases d : (k : Int) = x.toInt
          · have dx : k = x.toNatClampNeg := by omega
            obtain ⟨b1, b2⟩ := a3 k (by omega)
            rw [b1, b2, dx, hs_o (by simp), hs_self, hs_self, es]
            exact ⟨rfl, rfl⟩
          · obtain ⟨b1, b2⟩ := a2 k (by omega) r
            rw [b1, b2, hs_o (by simp), hs_o (by simp)]
            exact ⟨rfl, rfl⟩
        · have n : ¬ k = x.toNatClampNeg := by omega
          obtain ⟨b1, b2⟩ := a3 k (by omega)
          rw [b1, b2]
          simp [hs_get, n]
        · rw [a4 k i p r, hs_o (fun w => r w.1), hs_o (fun w => p w.1)]
      by_cases d : 12 ≤ x
      · rw [if_pos d]
        rw [Int32.le_iff_toInt_le, k12] at d
        exact fin 0 (by rw [if_neg (by omega)])
      · rw [if_neg d]
        rw [Int32.le_iff_toInt_le, k12] at d
        exact fin _ (by rw [if_pos (by omega)])
theorem rbeg (g : ph_H) : (∀ k, k < 28 → FX12_begin g 10 k = 0 ∧ FX12_begin g 11 k = if k < 12 then g 6 k else 0) ∧ (∀ t, t < 4 → FX12_begin g 12 t = (if g 1 t ≤ 0 then 24 else 0) ∧ FX12_begin g 13 t = (if t = 0 then 1 else 0) ∧ FX12_begin g 14 t = -1 ∧ FX12_begin g 15 t = -1) ∧ (∀ k i, ¬ k = 0 → ¬ (10 ≤ k ∧ k ≤ 15) → FX12_begin g k i = g k i) ∧ (∀ i, FX12_begin g 0 i = if i = 18 ∨ i = 23 ∨ i = 24 ∨ i = 25 ∨ i = 26 ∨ i = 35 then 0 else g 0 i) := by
  have k0 : (0 : Int32).toInt = 0 := by decide
  unfold FX12_begin
  obtain ⟨g', a1, a2, a3, a4⟩ := rb2 2000 0 g ⟨by decide, by decide⟩ (by decide)
  obtain ⟨b1, b2, b3, b4⟩ := rb45 2000 0 g' ⟨by decide, by decide⟩ (by decide)
  rw [a1]
  refine ⟨fun k hk => ?_, fun t ht => ?_, fun k i p r => ?_, fun i => ?_⟩
  · rw [b3 10 k (by omega) (by omega), b3 11 k (by omega) (by omega)]
    exact a2 k (by omega) hk
  · have := b1 t (by omega) ht
    rw [a4 1 t (by decide) (by decide)] at this
    exact this
  · rw [b3 k i p (by omega), a4 k i (by omega) (by omega)]
  · rw [b4 i, a4 0 i (by decide) (by decide)]
def PR (h g : ph_H) : Prop := Rpr h g ∧ (∀ c, c < 12 → h 11 c = g 6 c) ∧ (∀ i, iv 0 19 (g 2 i))
theorem begin_RC {h g : ph_H} {kv : Int32} (p : PR h g) (e : kv = kn g) (n : 0 ≤ (kn g).toInt) (v : ∀ k : Nat, (k : Int) < (kn g).toInt → h 12 k = vi g k) : RC (FX3_begin_st kv h) (FX12_begin g) := by
  obtain ⟨c1, c2, c3, c4, c5, c6, c7, c8⟩ := cbeg kv h
  obtain ⟨r1, r2, r3, r4⟩ := rbeg g
  have k0 : (0 : Int32).toInt = 0 := by decide
  have kn1 : (-1 : Int32).toInt = -1 := by decide
  have ek : kn (FX12_begin g) = kn g := by
    unfold kn
    rw [r4, r4, r4]
    simp
  have ev : ∀ k, vi (FX12_begin g) k = vi g k := fun k => by
    unfold vi
    rw [r4, r3 7 k (by decide) (by decide), r3 36 k (by decide) (by decide)]
    simp
  have e18 : FX12_begin g 0 18 = 0 := by rw [r4]; simp
  have e23 : FX12_begin g 0 23 = 0 := by rw [r4]; simp
  refine ⟨fun i hi => ?_, fun t ht => ?_, fun t ht => ?_, ⟨?_, fun x hx => ?_⟩, ⟨?_, ?_, ?_, fun k hk => ?_⟩, ⟨fun t ht => ?_, fun i hi => ?_⟩, ⟨fun k hk => ?_, fun t ht => ?_, fun i => ?_⟩⟩
  · obtain ⟨a, b⟩ := r1 i hi
    rw [c1 i hi, c2 i hi, a, b]
    refine ⟨rfl, ?_⟩
    by_cases c : i < 12
    · rw [if_pos c, if_pos c]
      exact p.2.1 i c
    · rw [if_neg c, if_neg c]
  · rw [c3 t ht, (r2 t ht).1, r3 1 t (by decide) (by decide)]
    unfold nrm
    rw [if_neg (by decide)]
    by_cases c : g 1 t ≤ 0
    · rw [if_pos c, if_neg (fun w => by
        rw [Int32.lt_iff_toInt_lt] at w
        rw [Int32.le_iff_toInt_le] at c
        omega)]
    · rw [if_neg c, if_pos (nle c)]
  · obtain ⟨a, b, c, d⟩ := r2 t ht
    rw [c4 t ht, b, c, d]
    by_cases w : t = 0
    · rw [if_pos w]
      exact Or.inr (Or.inl ⟨rfl, rfl, rfl, rfl⟩)
    · rw [if_neg w]
      exact Or.inl ⟨rfl, rfl, rfl, rfl⟩
  · rw [c5, e18]
  · rw [e18, k0] at hx
    omega
  · rw [c7, e23]
  · rw [c6, ek, e]
  · rw [e23, ek, k0]
    exact n
  · rw [c8 _ _ (by decide), ev]
    exact v k (by rw [ek] at hk; exact hk)
  · rw [c8 _ _ (by decide), r3 1 t (by decide) (by decide)]
    exact p.1.1 t ht
  · rw [c8 _ _ (by decide), c8 _ _ (by decide), c8 _ _ (by decide), c8 _ _ (by decide), r3 2 i (by decide) (by decide), r3 3 i (by decide) (by decide), r3 4 i (by decide) (by decide), r3 5 i (by decide) (by decide)]
    exact p.1.2 i hi
  · exact Or.inl (r1 k hk).1
  · obtain ⟨a, b, c, d⟩ := r2 t ht
    rw [c, d, e18, k0, kn1]
    omega
  · rw [r3 2 i (by decide) (by decide)]
    exact p.2.2 i
