/-! INTERVALS of ints: what a number can be, by bounds; each row's bounds are literals, checked by evaluation. -/
def iv (a b : Int) (x : Int32) : Prop := a ≤ x.toInt ∧ x.toInt ≤ b
def lw (a b : Int) (x : Int64) : Prop := a ≤ x.toInt ∧ x.toInt ≤ b
theorem iv_any (x : Int32) : iv (-2147483648) 2147483647 x := by
  have h1 := Int32.le_toInt x
  have h2 := Int32.toInt_lt x
  unfold iv
  omega
theorem iv_w {a b c d : Int} {x : Int32} (h : iv a b x) (q : (decide (c ≤ a) && decide (b ≤ d)) = true) : iv c d x := by
  simp only [Bool.and_eq_true, decide_eq_true_eq] at q
  unfold iv at *
  omega
theorem iv_and {a b c d lo hi : Int} {x : Int32} (h : iv a b x) (k : iv c d x) (q : ((decide (lo ≤ a) || decide (lo ≤ c)) && (decide (b ≤ hi) || decide (d ≤ hi))) = true) : iv lo hi x := by
  simp only [Bool.and_eq_true, Bool.or_eq_true, decide_eq_true_eq] at q
  unfold iv at *
  omega
theorem iv_lit {lo hi : Int} {x : Int32} (q : (decide (lo ≤ x.toInt) && decide (x.toInt ≤ hi)) = true) : iv lo hi x := by
  simp only [Bool.and_eq_true, decide_eq_true_eq] at q
  exact q
theorem lw_lit {lo hi : Int} {x : Int64} (q : (decide (lo ≤ x.toInt) && decide (x.toInt ≤ hi)) = true) : lw lo hi x := by
  simp only [Bool.and_eq_true, decide_eq_true_eq] at q
  exact q
theorem lw_of {a b : Int} {x : Int32} (h : iv a b x) : lw a b x.toInt64 := by
  unfold lw
  rw [Int32.toInt_toInt64]
  exact h
theorem bm_in {n : Int} (h1 : -2147483648 ≤ n) (h2 : n ≤ 2147483647) : n.bmod (2 ^ 32) = n := Int.bmod_eq_of_le_mul_two (by omega) (by omega)
theorem ti_add {x y : Int32} (h1 : -2147483648 ≤ x.toInt + y.toInt) (h2 : x.toInt + y.toInt ≤ 2147483647) : (x + y).toInt = x.toInt + y.toInt := by rw [Int32.toInt_add, bm_in h1 h2]
theorem ti_sub {x y : Int32} (h1 : -2147483648 ≤ x.toInt - y.toInt) (h2 : x.toInt - y.toInt ≤ 2147483647) : (x - y).toInt = x.toInt - y.toInt := by rw [Int32.toInt_sub, bm_in h1 h2]
theorem ti_mul {x y : Int32} (h1 : -2147483648 ≤ x.toInt * y.toInt) (h2 : x.toInt * y.toInt ≤ 2147483647) : (x * y).toInt = x.toInt * y.toInt := by rw [Int32.toInt_mul, bm_in h1 h2]
theorem iv_add {a b c d lo hi : Int} {x y : Int32} (hx : iv a b x) (hy : iv c d y) (q : (decide (lo ≤ a + c) && decide (b + d ≤ hi) && decide (-2147483648 ≤ lo) && decide (hi ≤ 2147483647)) = true) : iv lo hi (x + y) := by
  simp only [Bool.and_eq_true, decide_eq_true_eq] at q
  unfold iv at *
  rw [ti_add (by omega) (by omega)]
  omega
theorem iv_sub {a b c d lo hi : Int} {x y : Int32} (hx : iv a b x) (hy : iv c d y) (q : (decide (lo ≤ a - d) && decide (b - c ≤ hi) && decide (-2147483648 ≤ lo) && decide (hi ≤ 2147483647)) = true) : iv lo hi (x - y) := by
  simp only [Bool.and_eq_true, decide_eq_true_eq] at q
  unfold iv at *
  rw [ti_sub (by omega) (by omega)]
  omega
/-- a difference of which the order is known -/
theorem iv_subo {a b c d lo hi : Int} {x y : Int32} (hx : iv a b x) (hy : iv c d y) (ho : y ≤ x) (q : (decide (lo ≤ 0) && decide (b - c ≤ hi) && decide (-2147483648 ≤ lo) && decide (hi ≤ 2147483647)) = true) : iv lo hi (x - y) := by
  simp only [Bool.and_eq_true, decide_eq_true_eq] at q
  rw [Int32.le_iff_toInt_le] at ho
  unfold iv at *
  rw [ti_sub (by omega) (by omega)]
  omega
/-- a product with a literal on the left, not negative -/
theorem iv_mul {c a b lo hi : Int} {k x : Int32} (hk : (decide (k.toInt = c) && decide (0 ≤ c)) = true) (hx : iv a b x) (q : (decide (lo ≤ c * a) && decide (c * b ≤ hi) && decide (-2147483648 ≤ lo) && decide (hi ≤ 2147483647)) = true) : iv lo hi (k * x) := by
  simp only [Bool.and_eq_true, decide_eq_true_eq] at q hk
  unfold iv at *
  obtain ⟨hk, hc⟩ := hk
  have h1 : c * a ≤ c * x.toInt := Int.mul_le_mul_of_nonneg_left hx.1 hc
  have h2 : c * x.toInt ≤ c * b := Int.mul_le_mul_of_nonneg_left hx.2 hc
  rw [ti_mul (by rw [hk]; omega) (by rw [hk]; omega), hk]
  omega
theorem iv_mulr {c a b lo hi : Int} {k x : Int32} (hk : (decide (k.toInt = c) && decide (0 ≤ c)) = true) (hx : iv a b x) (q : (decide (lo ≤ c * a) && decide (c * b ≤ hi) && decide (-2147483648 ≤ lo) && decide (hi ≤ 2147483647)) = true) : iv lo hi (x * k) := by
  rw [Int32.mul_comm]
  exact iv_mul hk hx q
theorem iv_in {a b : Int} {n : Nat} {x : Int32} (h : iv a b x) (q : (decide (0 ≤ a) && decide (b < (n : Int))) = true) : vp_in x n := by
  simp only [Bool.and_eq_true, decide_eq_true_eq] at q
  rw [vp_in_iff]
  unfold iv at h
  omega
theorem iv_bo {x : Int32} (h : iv 0 1 x) : bo x := by
  unfold iv at h
  rcases (show x.toInt = 0 ∨ x.toInt = 1 by omega) with e | e
  · exact Or.inl (Int32.toInt_inj.mp (e.trans (by decide)))
  · exact Or.inr (Int32.toInt_inj.mp (e.trans (by decide)))
theorem bo_iv {x : Int32} (h : bo x) : iv 0 1 x := by rcases h with h | h <;> subst h <;> exact ⟨by decide, by decide⟩
theorem iv_r {a b : Int} {x y : Int32} (e : x = y) (h : iv a b y) : iv a b x := by rw [e]; exact h
theorem nn_of {x : Int32} (h : 0 ≤ x) : ¬ x < 0 := fun z => by
  rw [Int32.le_iff_toInt_le] at h
  rw [Int32.lt_iff_toInt_lt] at z
  omega
theorem iv_ne0 {a b : Int} {x : Int32} (h : iv a b x) (q : (decide (0 < a) || decide (b < 0)) = true) : ¬ x = 0 := by
  simp only [Bool.or_eq_true, decide_eq_true_eq] at q
  intro e
  subst e
  unfold iv at h
  have h0 : (0 : Int32).toInt = 0 := by decide
  omega
/-! what a comparison says -/
theorem iv_ltl {a b c d lo hi : Int} {x y : Int32} (hx : iv a b x) (hy : iv c d y) (h : x < y) (q : (decide (lo ≤ a) && (decide (b ≤ hi) || decide (d ≤ hi + 1))) = true) : iv lo hi x := by
  simp only [Bool.and_eq_true, Bool.or_eq_true, decide_eq_true_eq] at q
  rw [Int32.lt_iff_toInt_lt] at h
  unfold iv at *
  omega
theorem iv_ltr {a b c d lo hi : Int} {x y : Int32} (hx : iv a b x) (hy : iv c d y) (h : y < x) (q : (decide (b ≤ hi) && (decide (lo ≤ a) || decide (lo ≤ c + 1))) = true) : iv lo hi x := by
  simp only [Bool.and_eq_true, Bool.or_eq_true, decide_eq_true_eq] at q
  rw [Int32.lt_iff_toInt_lt] at h
  unfold iv at *
  omega
theorem iv_lel {a b c d lo hi : Int} {x y : Int32} (hx : iv a b x) (hy : iv c d y) (h : x ≤ y) (q : (decide (lo ≤ a) && (decide (b ≤ hi) || decide (d ≤ hi))) = true) : iv lo hi x := by
  simp only [Bool.and_eq_true, Bool.or_eq_true, decide_eq_true_eq] at q
  rw [Int32.le_iff_toInt_le] at h
  unfold iv at *
  omega
theorem iv_ler {a b c d lo hi : Int} {x y : Int32} (hx : iv a b x) (hy : iv c d y) (h : y ≤ x) (q : (decide (b ≤ hi) && (decide (lo ≤ a) || decide (lo ≤ c))) = true) : iv lo hi x := by
  simp only [Bool.and_eq_true, Bool.or_eq_true, decide_eq_true_eq] at q
  rw [Int32.le_iff_toInt_le] at h
  unfold iv at *
  omega
theorem nlt {x y : Int32} (h : ¬ x < y) : y ≤ x := by
  rw [Int32.lt_iff_toInt_lt] at h
  rw [Int32.le_iff_toInt_le]
  omega
theorem nle {x y : Int32} (h : ¬ x ≤ y) : y < x := by
  rw [Int32.le_iff_toInt_le] at h
  rw [Int32.lt_iff_toInt_lt]
  omega
theorem iv_eql {a b c d lo hi : Int} {x y : Int32} (hx : iv a b x) (hy : iv c d y) (h : x = y) (q : ((decide (lo ≤ a) || decide (lo ≤ c)) && (decide (b ≤ hi) || decide (d ≤ hi))) = true) : iv lo hi x := by
  subst h
  exact iv_and hx hy q
theorem iv_eqr {a b c d lo hi : Int} {x y : Int32} (hx : iv a b x) (hy : iv c d y) (h : y = x) (q : ((decide (lo ≤ a) || decide (lo ≤ c)) && (decide (b ≤ hi) || decide (d ≤ hi))) = true) : iv lo hi x := by
  subst h
  exact iv_and hx hy q
/-- not the upper bound, or not the lower one -/
theorem iv_nel {a b lo hi : Int} {x y : Int32} (hx : iv a b x) (h : ¬ x = y) (q : ((decide (lo ≤ a) && decide (y.toInt = b) && decide (b ≤ hi + 1)) || (decide (b ≤ hi) && decide (y.toInt = a) && decide (lo ≤ a + 1))) = true) : iv lo hi x := by
  simp only [Bool.and_eq_true, Bool.or_eq_true, decide_eq_true_eq] at q
  rw [← Int32.toInt_inj] at h
  unfold iv at *
  omega
theorem iv_ner {a b lo hi : Int} {x y : Int32} (hx : iv a b x) (h : ¬ y = x) (q : ((decide (lo ≤ a) && decide (y.toInt = b) && decide (b ≤ hi + 1)) || (decide (b ≤ hi) && decide (y.toInt = a) && decide (lo ≤ a + 1))) = true) : iv lo hi x := iv_nel hx (fun e => h e.symm) q
/-- a branch that can't be -/
theorem iv_no {a b : Int} {x : Int32} {G : Prop} (h : iv a b x) (q : decide (b < a) = true) : G := by
  simp only [decide_eq_true_eq] at q
  unfold iv at h
  exfalso
  omega
theorem nar_z (x : Int32) : iv 0 1 (vp_nar .boolean x) := by
  have e : vp_nar .boolean x = x &&& 1 := rfl
  have : (x &&& 1) = 0 ∨ (x &&& 1) = 1 := by
    rcases Nat.mod_two_eq_zero_or_one x.toBitVec.toNat with h | h
    · left
      apply Int32.toBitVec_inj.1
      show x.toBitVec &&& 1#32 = 0#32
      apply BitVec.eq_of_toNat_eq
      rw [BitVec.toNat_and]
      show x.toBitVec.toNat &&& 1 = 0
      rw [Nat.and_one_is_mod]
      exact h
    · right
      apply Int32.toBitVec_inj.1
      show x.toBitVec &&& 1#32 = 1#32
      apply BitVec.eq_of_toNat_eq
      rw [BitVec.toNat_and]
      show x.toBitVec.toNat &&& 1 = 1
      rw [Nat.and_one_is_mod]
      exact h
  rw [e]
  exact bo_iv this
/-! the shape of a proof that a method is safe: its condition, and what holds of what it answers -/
theorem sf_n {c P Q : Prop} (h : c) (k : P ∧ Q) : (c ∧ P) ∧ Q := ⟨⟨h, k.1⟩, k.2⟩
theorem sf_if {α : Type} {c P1 P2 : Prop} [Decidable c] {a b : α} {Q : α → Prop} (h1 : c → P1 ∧ Q a) (h2 : ¬ c → P2 ∧ Q b) : ((c → P1) ∧ (¬ c → P2)) ∧ Q (if c then a else b) := by
  by_cases h : c
  · rw [if_pos h]
    exact ⟨⟨fun _ => (h1 h).1, fun z => absurd h z⟩, (h1 h).2⟩
  · rw [if_neg h]
    exact ⟨⟨fun z => absurd z h, fun _ => (h2 h).1⟩, (h2 h).2⟩
/-! measures of loops -/
theorem mu_up {m : Int} {q : Nat} {a b : Int} {x : Int32} (hx : iv a b x) (h : m - x.toInt < ((q + 1 : Nat) : Int)) (k : decide (b < 2147483647) = true) : m - (x + 1).toInt < (q : Int) := by
  simp only [decide_eq_true_eq] at k
  unfold iv at hx
  have h1 : (1 : Int32).toInt = 1 := by decide
  have h2 := Int32.le_toInt x
  rw [ti_add (by omega) (by omega), h1]
  omega
theorem mu_dn {m : Int} {q : Nat} {a b : Int} {x : Int32} (hx : iv a b x) (h : x.toInt - m < ((q + 1 : Nat) : Int)) (k : decide (-2147483648 < a) = true) : (x + (-1)).toInt - m < (q : Int) := by
  simp only [decide_eq_true_eq] at k
  unfold iv at hx
  have h1 : (-1 : Int32).toInt = -1 := by decide
  have h2 := Int32.toInt_lt x
  rw [ti_add (by omega) (by omega), h1]
  omega
theorem mu_0u {m a b : Int} {q : Nat} {x : Int32} (hx : iv a b x) (k : decide (m - a < (q : Int)) = true) : m - x.toInt < (q : Int) := by
  simp only [decide_eq_true_eq] at k
  unfold iv at hx
  omega
theorem mu_0d {m a b : Int} {q : Nat} {x : Int32} (hx : iv a b x) (k : decide (b - m < (q : Int)) = true) : x.toInt - m < (q : Int) := by
  simp only [decide_eq_true_eq] at k
  unfold iv at hx
  omega
theorem mu_zu {m a b : Int} {x : Int32} {G : Prop} (hx : iv a b x) (h : m - x.toInt < ((0 : Nat) : Int)) (k : decide (b ≤ m) = true) : G := by
  simp only [decide_eq_true_eq] at k
  unfold iv at hx
  exfalso
  omega
theorem mu_zd {m a b : Int} {x : Int32} {G : Prop} (hx : iv a b x) (h : x.toInt - m < ((0 : Nat) : Int)) (k : decide (m ≤ a) = true) : G := by
  simp only [decide_eq_true_eq] at k
  unfold iv at hx
  exfalso
  omega
/-! longs: what isIn says -/
theorem lg_nlt {x y : Int64} (h : ¬ lg_cmp x y < 0) : y ≤ x := (lg_cmp_ge x y).mp (nlt h)
theorem lg_ngt {x y : Int64} (h : ¬ 0 < lg_cmp x y) : x ≤ y := (lg_cmp_le x y).mp (nlt h)
theorem isIn_p {x l u : Int64} : PX12_isIn x l u := ⟨fun _ => trivial, fun _ => ⟨fun _ => trivial, fun _ => trivial⟩⟩
theorem isIn_b {x l u : Int64} : iv 0 1 (FX12_isIn x l u) := by
  unfold FX12_isIn
  split
  · exact ⟨by decide, by decide⟩
  · split <;> exact ⟨by decide, by decide⟩
theorem isIn_t {x l u : Int64} (h : ¬ FX12_isIn x l u = 0) : l ≤ x ∧ x ≤ u := by
  unfold FX12_isIn at h
  split at h
  · exact absurd rfl h
  · split at h
    · exact absurd rfl h
    · exact ⟨lg_nlt ‹_›, lg_ngt ‹_›⟩
theorem isIn_f {x l u : Int64} (h : FX12_isIn x l u = 0) : ¬ (l ≤ x ∧ x ≤ u) := by
  unfold FX12_isIn at h
  rintro ⟨h1, h2⟩
  split at h
  · exact absurd ((lg_cmp_ge x l).mpr h1) (by rename_i z; intro w; rw [Int32.lt_iff_toInt_lt] at z; rw [Int32.le_iff_toInt_le] at w; omega)
  · split at h
    · exact absurd ((lg_cmp_le x u).mpr h2) (by rename_i z; intro w; rw [Int32.lt_iff_toInt_lt] at z; rw [Int32.le_iff_toInt_le] at w; omega)
    · exact absurd h (by decide)
theorem isIn_iv {a b c d e f lo hi : Int} {x : Int32} {l u : Int64} (hx : iv a b x) (hl : lw c d l) (hu : lw e f u) (h : ¬ FX12_isIn x.toInt64 l u = 0) (q : ((decide (lo ≤ a) || decide (lo ≤ c)) && (decide (b ≤ hi) || decide (f ≤ hi))) = true) : iv lo hi x := by
  have h1 := isIn_t h
  rw [Int64.le_iff_toInt_le, Int64.le_iff_toInt_le, Int32.toInt_toInt64] at h1
  simp only [Bool.and_eq_true, Bool.or_eq_true, decide_eq_true_eq] at q
  unfold iv lw at *
  omega
theorem modulo_p {x n : Int32} {m : Int} (hn : n.toInt = m) (hm : 1 ≤ m) : PX12_modulo x n := by
  have h : ¬ n = 0 := fun e => by
    subst e
    have : (0 : Int32).toInt = 0 := by decide
    omega
  exact ⟨h, h, trivial⟩
theorem irem_ti {x n : Int32} {m : Int} (hn : n.toInt = m) (h1 : 1 ≤ m) (h2 : m ≤ 1000) : (x - x / n * n).toInt = x.toInt - x.toInt.tdiv m * m ∧ x.toInt - x.toInt.tdiv m * m = x.toInt.tmod m := by
  have hx1 := Int32.le_toInt x
  have hx2 := Int32.toInt_lt x
  have hne : n ≠ -1 := fun e => by
    subst e
    have : (-1 : Int32).toInt = -1 := by decide
    omega
  have hd : (x / n).toInt = x.toInt.tdiv m := by rw [Int32.toInt_div_of_ne_right x n hne, hn]
  have hm := Int.tdiv_mul_add_tmod x.toInt m
  have hr1 : -m < x.toInt.tmod m := Int.lt_tmod_of_pos x.toInt (by omega)
  have hr2 : x.toInt.tmod m < m := Int.tmod_lt_of_pos x.toInt (by omega)
  have hsgn : (0 ≤ x.toInt → 0 ≤ x.toInt.tmod m) := fun z => Int.tmod_nonneg m z
  have hsg2 : (x.toInt ≤ 0 → x.toInt.tmod m ≤ 0) := fun z => by
    have := Int.tmod_nonneg (a := -x.toInt) m (by omega)
    rw [Int.neg_tmod] at this
    omega
  have hml : (x / n * n).toInt = x.toInt.tdiv m * m := by
    rw [ti_mul, hd, hn]
    · rw [hd, hn]; rcases Int.le_total 0 x.toInt with z | z
      · have := hsgn z; omega
      · have := hsg2 z; omega
    · rw [hd, hn]; rcases Int.le_total 0 x.toInt with z | z
      · have := hsgn z; omega
      · have := hsg2 z; omega
  refine ⟨?_, by omega⟩
  rw [ti_sub, hml]
  · rw [hml]; omega
  · rw [hml]; omega
theorem irem_iv {x n : Int32} {m : Int} (hn : n.toInt = m) (h1 : 1 ≤ m) (h2 : m ≤ 1000) : iv (1 - m) (m - 1) (x - x / n * n) := by
  obtain ⟨e1, e2⟩ := irem_ti (x := x) hn h1 h2
  have hr1 : -m < x.toInt.tmod m := Int.lt_tmod_of_pos x.toInt (by omega)
  have hr2 : x.toInt.tmod m < m := Int.tmod_lt_of_pos x.toInt (by omega)
  unfold iv
  rw [e1, e2]
  omega
theorem irem_nn {a b : Int} {x n : Int32} {m : Int} (hn : n.toInt = m) (h1 : 1 ≤ m) (h2 : m ≤ 1000) (hx : iv a b x) (ha : 0 ≤ a) : iv 0 (m - 1) (x - x / n * n) := by
  obtain ⟨e1, e2⟩ := irem_ti (x := x) hn h1 h2
  have hr2 : x.toInt.tmod m < m := Int.tmod_lt_of_pos x.toInt (by omega)
  unfold iv at *
  have := Int.tmod_nonneg (a := x.toInt) m (by omega)
  rw [e1, e2]
  omega
theorem modulo_iv {x n : Int32} {m hi : Int} (q : (decide (n.toInt = m) && decide (1 ≤ m) && decide (m ≤ 1000) && decide (m = hi + 1)) = true) : iv 0 hi (FX12_modulo x n) := by
  simp only [Bool.and_eq_true, decide_eq_true_eq] at q
  obtain ⟨⟨⟨hn, h1⟩, h2⟩, h3⟩ := q
  have hr := irem_iv (x := x) hn h1 h2
  have hs : iv 1 (2 * m - 1) ((x - x / n * n) + n) := by
    unfold iv at *
    rw [ti_add (by omega) (by omega)]
    omega
  have h4 := irem_nn (x := (x - x / n * n) + n) hn h1 h2 hs (by omega)
  have e : hi = m - 1 := by omega
  rw [e]
  exact h4
