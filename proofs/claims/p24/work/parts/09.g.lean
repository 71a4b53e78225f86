section MG_09_iv
/-! INTERVALS of ints: what a number can be, by bounds; each row's bounds are literals, checked by evaluation. -/
def iv (a b : Int) (x : Int32) : Prop := a ≤ x.toInt ∧ x.toInt ≤ b
def lw (a b : Int) (x : Int64) : Prop := a ≤ x.toInt ∧ x.toInt ≤ b
theorem iv_any (x : Int32) : iv (-2147483648) 2147483647 x := by
  have h1 := Int32.le_toInt x
  have h2 := Int32.toInt_lt x
  unfold iv
  omega
theorem iv_w {a b c d : Int} {x : Int32} (h : iv a b x) (q : (decide (c ≤ a) && decide (b ≤ d)) = true) : iv c d x := by
  simp only [Bool.and_eq_true, decide_eq_true_eq] at q
  unfold iv at *
  omega
theorem iv_and {a b c d lo hi : Int} {x : Int32} (h : iv a b x) (k : iv c d x) (q : ((decide (lo ≤ a) || decide (lo ≤ c)) && (decide (b ≤ hi) || decide (d ≤ hi))) = true) : iv lo hi x := by
  simp only [Bool.and_eq_true, Bool.or_eq_true, decide_eq_true_eq] at q
  unfold iv at *
  omega
theorem iv_lit {lo hi : Int} {x : Int32} (q : (decide (lo ≤ x.toInt) && decide (x.toInt ≤ hi)) = true) : iv lo hi x := by
  simp only [Bool.and_eq_true, decide_eq_true_eq] at q
  exact q
theorem lw_lit {lo hi : Int} {x : Int64} (q : (decide (lo ≤ x.toInt) && decide (x.toInt ≤ hi)) = true) : lw lo hi x := by
  simp only [Bool.and_eq_true, decide_eq_true_eq] at q
  exact q
theorem lw_of {a b : Int} {x : Int32} (h : iv a b x) : lw a b x.toInt64 := by
  unfold lw
  rw [Int32.toInt_toInt64]
  exact h
theorem bm_in {n : Int} (h1 : -2147483648 ≤ n) (h2 : n ≤ 2147483647) : n.bmod (2 ^ 32) = n := Int.bmod_eq_of_le_mul_two (by omega) (by omega)
theorem ti_add {x y : Int32} (h1 : -2147483648 ≤ x.toInt + y.toInt) (h2 : x.toInt + y.toInt ≤ 2147483647) : (x + y).toInt = x.toInt + y.toInt := by rw [Int32.toInt_add, bm_in h1 h2]
theorem ti_sub {x y : Int32} (h1 : -2147483648 ≤ x.toInt - y.toInt) (h2 : x.toInt - y.toInt ≤ 2147483647) : (x - y).toInt = x.toInt - y.toInt := by rw [Int32.toInt_sub, bm_in h1 h2]
theorem ti_mul {x y : Int32} (h1 : -2147483648 ≤ x.toInt * y.toInt) (h2 : x.toInt * y.toInt ≤ 2147483647) : (x * y).toInt = x.toInt * y.toInt := by rw [Int32.toInt_mul, bm_in h1 h2]
theorem iv_add {a b c d lo hi : Int} {x y : Int32} (hx : iv a b x) (hy : iv c d y) (q : (decide (lo ≤ a + c) && decide (b + d ≤ hi) && decide (-2147483648 ≤ lo) && decide (hi ≤ 2147483647)) = true) : iv lo hi (x + y) := by
  simp only [Bool.and_eq_true, decide_eq_true_eq] at q
  unfold iv at *
  rw [ti_add (by omega) (by omega)]
  omega
theorem iv_sub {a b c d lo hi : Int} {x y : Int32} (hx : iv a b x) (hy : iv c d y) (q : (decide (lo ≤ a - d) && decide (b - c ≤ hi) && decide (-2147483648 ≤ lo) && decide (hi ≤ 2147483647)) = true) : iv lo hi (x - y) := by
  simp only [Bool.and_eq_true, decide_eq_true_eq] at q
  unfold iv at *
  rw [ti_sub (by omega) (by omega)]
  omega
/-- a difference of which the order is known -/
theorem iv_subo {a b c d lo hi : Int} {x y : Int32} (hx : iv a b x) (hy : iv c d y) (ho : y ≤ x) (q : (decide (lo ≤ 0) && decide (b - c ≤ hi) && decide (-2147483648 ≤ lo) && decide (hi ≤ 2147483647)) = true) : iv lo hi (x - y) := by
  simp only [Bool.and_eq_true, decide_eq_true_eq] at q
  rw [Int32.le_iff_toInt_le] at ho
  unfold iv at *
  rw [ti_sub (by omega) (by omega)]
  omega
/-- a product with a literal on the left, not negative -/
theorem iv_mul {c a b lo hi : Int} {k x : Int32} (hk : (decide (k.toInt = c) && decide (0 ≤ c)) = true) (hx : iv a b x) (q : (decide (lo ≤ c * a) && decide (c * b ≤ hi) && decide (-2147483648 ≤ lo) && decide (hi ≤ 2147483647)) = true) : iv lo hi (k * x) := by
  simp only [Bool.and_eq_true, decide_eq_true_eq] at q hk
  unfold iv at *
  obtain ⟨hk, hc⟩ := hk
  have h1 : c * a ≤ c * x.toInt := Int.mul_le_mul_of_nonneg_left hx.1 hc
  have h2 : c * x.toInt ≤ c * b := Int.mul_le_mul_of_nonneg_left hx.2 hc
  rw [ti_mul (by rw [hk]; omega) (by rw [hk]; omega), hk]
  omega
theorem iv_mulr {c a b lo hi : Int} {k x : Int32} (hk : (decide (k.toInt = c) && decide (0 ≤ c)) = true) (hx : iv a b x) (q : (decide (lo ≤ c * a) && decide (c * b ≤ hi) && decide (-2147483648 ≤ lo) && decide (hi ≤ 2147483647)) = true) : iv lo hi (x * k) := by
  rw [Int32.mul_comm]
  exact iv_mul hk hx q
theorem iv_in {a b : Int} {n : Nat} {x : Int32} (h : iv a b x) (q : (decide (0 ≤ a) && decide (b < (n : Int))) = true) : vp_in x n := by
  simp only [Bool.and_eq_true, decide_eq_true_eq] at q
  rw [vp_in_iff]
  unfold iv at h
  omega
theorem iv_bo {x : Int32} (h : iv 0 1 x) : bo x := by
  unfold iv at h
  rcases (show x.toInt = 0 ∨ x.toInt = 1 by omega) with e | e
  · exact Or.inl (Int32.toInt_inj.mp (e.trans (by decide)))
  · exact Or.inr (Int32.toInt_inj.mp (e.trans (by decide)))
theorem bo_iv {x : Int32} (h : bo x) : iv 0 1 x := by rcases h with h | h <;> subst h <;> exact ⟨by decide, by decide⟩
theorem iv_r {a b : Int} {x y : Int32} (e : x = y) (h : iv a b y) : iv a b x := by rw [e]; exact h
theorem nn_of {x : Int32} (h : 0 ≤ x) : ¬ x < 0 := fun z => by
  rw [Int32.le_iff_toInt_le] at h
  rw [Int32.lt_iff_toInt_lt] at z
  omega
theorem iv_ne0 {a b : Int} {x : Int32} (h : iv a b x) (q : (decide (0 < a) || decide (b < 0)) = true) : ¬ x = 0 := by
  simp only [Bool.or_eq_true, decide_eq_true_eq] at q
  intro e
  subst e
  unfold iv at h
  have h0 : (0 : Int32).toInt = 0 := by decide
  omega
/-! what a comparison says -/
theorem iv_ltl {a b c d lo hi : Int} {x y : Int32} (hx : iv a b x) (hy : iv c d y) (h : x < y) (q : (decide (lo ≤ a) && (decide (b ≤ hi) || decide (d ≤ hi + 1))) = true) : iv lo hi x := by
  simp only [Bool.and_eq_true, Bool.or_eq_true, decide_eq_true_eq] at q
  rw [Int32.lt_iff_toInt_lt] at h
  unfold iv at *
  omega
theorem iv_ltr {a b c d lo hi : Int} {x y : Int32} (hx : iv a b x) (hy : iv c d y) (h : y < x) (q : (decide (b ≤ hi) && (decide (lo ≤ a) || decide (lo ≤ c + 1))) = true) : iv lo hi x := by
  simp only [Bool.and_eq_true, Bool.or_eq_true, decide_eq_true_eq] at q
  rw [Int32.lt_iff_toInt_lt] at h
  unfold iv at *
  omega
theorem iv_lel {a b c d lo hi : Int} {x y : Int32} (hx : iv a b x) (hy : iv c d y) (h : x ≤ y) (q : (decide (lo ≤ a) && (decide (b ≤ hi) || decide (d ≤ hi))) = true) : iv lo hi x := by
  simp only [Bool.and_eq_true, Bool.or_eq_true, decide_eq_true_eq] at q
  rw [Int32.le_iff_toInt_le] at h
  unfold iv at *
  omega
theorem iv_ler {a b c d lo hi : Int} {x y : Int32} (hx : iv a b x) (hy : iv c d y) (h : y ≤ x) (q : (decide (b ≤ hi) && (decide (lo ≤ a) || decide (lo ≤ c))) = true) : iv lo hi x := by
  simp only [Bool.and_eq_true, Bool.or_eq_true, decide_eq_true_eq] at q
  rw [Int32.le_iff_toInt_le] at h
  unfold iv at *
  omega
theorem nlt {x y : Int32} (h : ¬ x < y) : y ≤ x := by
  rw [Int32.lt_iff_toInt_lt] at h
  rw [Int32.le_iff_toInt_le]
  omega
theorem nle {x y : Int32} (h : ¬ x ≤ y) : y < x := by
  rw [Int32.le_iff_toInt_le] at h
  rw [Int32.lt_iff_toInt_lt]
  omega
theorem iv_eql {a b c d lo hi : Int} {x y : Int32} (hx : iv a b x) (hy : iv c d y) (h : x = y) (q : ((decide (lo ≤ a) || decide (lo ≤ c)) && (decide (b ≤ hi) || decide (d ≤ hi))) = true) : iv lo hi x := by
  subst h
  exact iv_and hx hy q
theorem iv_eqr {a b c d lo hi : Int} {x y : Int32} (hx : iv a b x) (hy : iv c d y) (h : y = x) (q : ((decide (lo ≤ a) || decide (lo ≤ c)) && (decide (b ≤ hi) || decide (d ≤ hi))) = true) : iv lo hi x := by
  subst h
  exact iv_and hx hy q
/-- not the upper bound, or not the lower one -/
theorem iv_nel {a b lo hi : Int} {x y : Int32} (hx : iv a b x) (h : ¬ x = y) (q : ((decide (lo ≤ a) && decide (y.toInt = b) && decide (b ≤ hi + 1)) || (decide (b ≤ hi) && decide (y.toInt = a) && decide (lo ≤ a + 1))) = true) : iv lo hi x := by
  simp only [Bool.and_eq_true, Bool.or_eq_true, decide_eq_true_eq] at q
  rw [← Int32.toInt_inj] at h
  unfold iv at *
  omega
theorem iv_ner {a b lo hi : Int} {x y : Int32} (hx : iv a b x) (h : ¬ y = x) (q : ((decide (lo ≤ a) && decide (y.toInt = b) && decide (b ≤ hi + 1)) || (decide (b ≤ hi) && decide (y.toInt = a) && decide (lo ≤ a + 1))) = true) : iv lo hi x := iv_nel hx (fun e => h e.symm) q
/-- a branch that can't be -/
theorem iv_no {a b : Int} {x : Int32} {G : Prop} (h : iv a b x) (q : decide (b < a) = true) : G := by
  simp only [decide_eq_true_eq] at q
  unfold iv at h
  exfalso
  omega
theorem nar_z (x : Int32) : iv 0 1 (vp_nar .boolean x) := by
  have e : vp_nar .boolean x = x &&& 1 := rfl
  have : (x &&& 1) = 0 ∨ (x &&& 1) = 1 := by
    rcases Nat.mod_two_eq_zero_or_one x.toBitVec.toNat with h | h
    · left
      apply Int32.toBitVec_inj.1
      show x.toBitVec &&& 1#32 = 0#32
      apply BitVec.eq_of_toNat_eq
      rw [BitVec.toNat_and]
      show x.toBitVec.toNat &&& 1 = 0
      rw [Nat.and_one_is_mod]
      exact h
    · right
      apply Int32.toBitVec_inj.1
      show x.toBitVec &&& 1#32 = 1#32
      apply BitVec.eq_of_toNat_eq
      rw [BitVec.toNat_and]
      show x.toBitVec.toNat &&& 1 = 1
      rw [Nat.and_one_is_mod]
      exact h
  rw [e]
  exact bo_iv this
/-! the shape of a proof that a method is safe: its condition, and what holds of what it answers -/
theorem sf_n {c P Q : Prop} (h : c) (k : P ∧ Q) : (c ∧ P) ∧ Q := ⟨⟨h, k.1⟩, k.2⟩
theorem sf_if {α : Type} {c P1 P2 : Prop} [Decidable c] {a b : α} {Q : α → Prop} (h1 : c → P1 ∧ Q a) (h2 : ¬ c → P2 ∧ Q b) : ((c → P1) ∧ (¬ c → P2)) ∧ Q (if c then a else b) := by
  by_cases h : c
  · rw [if_pos h]
    exact ⟨⟨fun _ => (h1 h).1, fun z => absurd h z⟩, (h1 h).2⟩
  · rw [if_neg h]
    exact ⟨⟨fun z => absurd z h, fun _ => (h2 h).1⟩, (h2 h).2⟩
/-! measures of loops -/
theorem mu_up {m : Int} {q : Nat} {a b : Int} {x : Int32} (hx : iv a b x) (h : m - x.toInt < ((q + 1 : Nat) : Int)) (k : decide (b < 2147483647) = true) : m - (x + 1).toInt < (q : Int) := by
  simp only [decide_eq_true_eq] at k
  unfold iv at hx
  have h1 : (1 : Int32).toInt = 1 := by decide
  have h2 := Int32.le_toInt x
  rw [ti_add (by omega) (by omega), h1]
  omega
theorem mu_dn {m : Int} {q : Nat} {a b : Int} {x : Int32} (hx : iv a b x) (h : x.toInt - m < ((q + 1 : Nat) : Int)) (k : decide (-2147483648 < a) = true) : (x + (-1)).toInt - m < (q : Int) := by
  simp only [decide_eq_true_eq] at k
  unfold iv at hx
  have h1 : (-1 : Int32).toInt = -1 := by decide
  have h2 := Int32.toInt_lt x
  rw [ti_add (by omega) (by omega), h1]
  omega
theorem mu_0u {m a b : Int} {q : Nat} {x : Int32} (hx : iv a b x) (k : decide (m - a < (q : Int)) = true) : m - x.toInt < (q : Int) := by
  simp only [decide_eq_true_eq] at k
  unfold iv at hx
  omega
theorem mu_0d {m a b : Int} {q : Nat} {x : Int32} (hx : iv a b x) (k : decide (b - m < (q : Int)) = true) : x.toInt - m < (q : Int) := by
  simp only [decide_eq_true_eq] at k
  unfold iv at hx
  omega
theorem mu_zu {m a b : Int} {x : Int32} {G : Prop} (hx : iv a b x) (h : m - x.toInt < ((0 : Nat) : Int)) (k : decide (b ≤ m) = true) : G := by
  simp only [decide_eq_true_eq] at k
  unfold iv at hx
  exfalso
  omega
theorem mu_zd {m a b : Int} {x : Int32} {G : Prop} (hx : iv a b x) (h : x.toInt - m < ((0 : Nat) : Int)) (k : decide (m ≤ a) = true) : G := by
  simp only [decide_eq_true_eq] at k
  unfold iv at hx
  exfalso
  omega
/-! longs: what isIn says -/
theorem lg_nlt {x y : Int64} (h : ¬ lg_cmp x y < 0) : y ≤ x := (lg_cmp_ge x y).mp (nlt h)
theorem lg_ngt {x y : Int64} (h : ¬ 0 < lg_cmp x y) : x ≤ y := (lg_cmp_le x y).mp (nlt h)
theorem isIn_p {x l u : Int64} : PX12_isIn x l u := ⟨fun _ => trivial, fun _ => ⟨fun _ => trivial, fun _ => trivial⟩⟩
theorem isIn_b {x l u : Int64} : iv 0 1 (FX12_isIn x l u) := by
  unfold FX12_isIn
  split
  · exact ⟨by decide, by decide⟩
  · split <;> exact ⟨by decide, by decide⟩
theorem isIn_t {x l u : Int64} (h : ¬ FX12_isIn x l u = 0) : l ≤ x ∧ x ≤ u := by
  unfold FX12_isIn at h
  split at h
  · exact absurd rfl h
  · split at h
    · exact absurd rfl h
    · exact ⟨lg_nlt ‹_›, lg_ngt ‹_›⟩
theorem isIn_f {x l u : Int64} (h : FX12_isIn x l u = 0) : ¬ (l ≤ x ∧ x ≤ u) := by
  unfold FX12_isIn at h
  rintro ⟨h1, h2⟩
  split at h
  · exact absurd ((lg_cmp_ge x l).mpr h1) (by rename_i z; intro w; rw [Int32.lt_iff_toInt_lt] at z; rw [Int32.le_iff_toInt_le] at w; omega)
  · split at h
    · exact absurd ((lg_cmp_le x u).mpr h2) (by rename_i z; intro w; rw [Int32.lt_iff_toInt_lt] at z; rw [Int32.le_iff_toInt_le] at w; omega)
    · exact absurd h (by decide)
theorem isIn_iv {a b c d e f lo hi : Int} {x : Int32} {l u : Int64} (hx : iv a b x) (hl : lw c d l) (hu : lw e f u) (h : ¬ FX12_isIn x.toInt64 l u = 0) (q : ((decide (lo ≤ a) || decide (lo ≤ c)) && (decide (b ≤ hi) || decide (f ≤ hi))) = true) : iv lo hi x := by
  have h1 := isIn_t h
  rw [Int64.le_iff_toInt_le, Int64.le_iff_toInt_le, Int32.toInt_toInt64] at h1
  simp only [Bool.and_eq_true, Bool.or_eq_true, decide_eq_true_eq] at q
  unfold iv lw at *
  omega
theorem modulo_p {x n : Int32} {m : Int} (hn : n.toInt = m) (hm : 1 ≤ m) : PX12_modulo x n := by
  have h : ¬ n = 0 := fun e => by
    subst e
    have : (0 : Int32).toInt = 0 := by decide
    omega
  exact ⟨h, h, trivial⟩
theorem irem_ti {x n : Int32} {m : Int} (hn : n.toInt = m) (h1 : 1 ≤ m) (h2 : m ≤ 1000) : (x - x / n * n).toInt = x.toInt - x.toInt.tdiv m * m ∧ x.toInt - x.toInt.tdiv m * m = x.toInt.tmod m := by
  have hx1 := Int32.le_toInt x
  have hx2 := Int32.toInt_lt x
  have hne : n ≠ -1 := fun e => by
    subst e
    have : (-1 : Int32).toInt = -1 := by decide
    omega
  have hd : (x / n).toInt = x.toInt.tdiv m := by rw [Int32.toInt_div_of_ne_right x n hne, hn]
  have hm := Int.tdiv_mul_add_tmod x.toInt m
  have hr1 : -m < x.toInt.tmod m := Int.lt_tmod_of_pos x.toInt (by omega)
  have hr2 : x.toInt.tmod m < m := Int.tmod_lt_of_pos x.toInt (by omega)
  have hsgn : (0 ≤ x.toInt → 0 ≤ x.toInt.tmod m) := fun z => Int.tmod_nonneg m z
  have hsg2 : (x.toInt ≤ 0 → x.toInt.tmod m ≤ 0) := fun z => by
    have := Int.tmod_nonneg (a := -x.toInt) m (by omega)
    rw [Int.neg_tmod] at this
    omega
  have hml : (x / n * n).toInt = x.toInt.tdiv m * m := by
    rw [ti_mul, hd, hn]
    · rw [hd, hn]; rcases Int.le_total 0 x.toInt with z | z
      · have := hsgn z; omega
      · have := hsg2 z; omega
    · rw [hd, hn]; rcases Int.le_total 0 x.toInt with z | z
      · have := hsgn z; omega
      · have := hsg2 z; omega
  refine ⟨?_, by omega⟩
  rw [ti_sub, hml]
  · rw [hml]; omega
  · rw [hml]; omega
theorem irem_iv {x n : Int32} {m : Int} (hn : n.toInt = m) (h1 : 1 ≤ m) (h2 : m ≤ 1000) : iv (1 - m) (m - 1) (x - x / n * n) := by
  obtain ⟨e1, e2⟩ := irem_ti (x := x) hn h1 h2
  have hr1 : -m < x.toInt.tmod m := Int.lt_tmod_of_pos x.toInt (by omega)
  have hr2 : x.toInt.tmod m < m := Int.tmod_lt_of_pos x.toInt (by omega)
  unfold iv
  rw [e1, e2]
  omega
theorem irem_nn {a b : Int} {x n : Int32} {m : Int} (hn : n.toInt = m) (h1 : 1 ≤ m) (h2 : m ≤ 1000) (hx : iv a b x) (ha : 0 ≤ a) : iv 0 (m - 1) (x - x / n * n) := by
  obtain ⟨e1, e2⟩ := irem_ti (x := x) hn h1 h2
  have hr2 : x.toInt.tmod m < m := Int.tmod_lt_of_pos x.toInt (by omega)
  unfold iv at *
  have := Int.tmod_nonneg (a := x.toInt) m (by omega)
  rw [e1, e2]
  omega
theorem modulo_iv {x n : Int32} {m hi : Int} (q : (decide (n.toInt = m) && decide (1 ≤ m) && decide (m ≤ 1000) && decide (m = hi + 1)) = true) : iv 0 hi (FX12_modulo x n) := by
  simp only [Bool.and_eq_true, decide_eq_true_eq] at q
  obtain ⟨⟨⟨hn, h1⟩, h2⟩, h3⟩ := q
  have hr := irem_iv (x := x) hn h1 h2
  have hs : iv 1 (2 * m - 1) ((x - x / n * n) + n) := by
    unfold iv at *
    rw [ti_add (by omega) (by omega)]
    omega
  have h4 := irem_nn (x := (x - x / n * n) + n) hn h1 h2 hs (by omega)
  have e : hi = m - 1 := by omega
  rw [e]
  exact h4
end MG_09_iv
section MG_09_jinv
/-! THE INVARIANT of the reference: bounds of its numbers; a THING in a slot has its number; z: many, inputs, turns. -/
abbrev zT : Type := ph_H
def tM (k i : Nat) : Int × Int := match k with
  | 0 => (match i with
    | 7 => (0, 30)
    | 9 => (0, 40)
    | 18 => (0, 12)
    | 23 => (0, 30)
    | 24 => (0, 300)
    | 26 => (0, 3)
    | 33 => (0, 1)
    | 34 => (0, 30)
    | 35 => (0, 1)
    | 36 => (0, 1)
    | 38 => (0, 300)
    | 41 => (0, 30)
    | 42 => (0, 300)
    | 60 => (0, 300)
    | 64 => (0, 1)
    | 74 => (0, 2)
    | _ => (-2147483648, 2147483647))
  | 1 => (0, 24)
  | 8 => (0, 3)
  | 9 => (0, 100)
  | 10 => (0, 3)
  | 12 => (0, 24)
  | 13 => (0, 1)
  | 14 => (-1, 11)
  | 15 => (-1, 11)
  | 18 => (0, 16)
  | 24 => (0, 12)
  | 27 => (0, 16)
  | 38 => (0, 3)
  | 39 => (0, 1)
  | 43 => (0, 3)
  | 45 => (0, 60)
  | _ => (-2147483648, 2147483647)
def gz (k i : Nat) : Bool := match k with
  | 0 => (match i with
    | 7 => true
    | 9 => true
    | 23 => true
    | 24 => true
    | 33 => true
    | 34 => true
    | 60 => true
    | _ => false)
  | 1 => true
  | 2 => true
  | _ => false
def okG (k : Nat) : Bool := match k with
  | 10 => false
  | 11 => false
  | _ => true
def okM (k i : Nat) : Bool := !gz k i && okG k
def IVm (h : ph_H) : Prop := ∀ k i, iv (tM k i).1 (tM k i).2 (h k i)
def KV (h : ph_H) : Prop := ∀ i, h 10 i = 0 ∨ iv 0 11 (h 11 i)
def ZM (z : zT) (h : ph_H) : Prop := ∀ k i, gz k i = true → h k i = z k i
def IM (z : zT) (h : ph_H) : Prop := IVm h ∧ KV h ∧ ZM z h
def Qi (z : zT) (a b : Int) (o : Int32 × ph_H) : Prop := iv a b o.1 ∧ IM z o.2
theorem Qi_mk {z : zT} {a b : Int} {x : Int32} {h : ph_H} (f : iv a b x) (I : IM z h) : Qi z a b (x, h) := ⟨f, I⟩
def Qc (a b : Int) (C : Int32 → Prop) (r : Int32) : Prop := iv a b r ∧ C r
theorem IMv {z : zT} {h : ph_H} (I : IM z h) (k i : Nat) : iv (tM k i).1 (tM k i).2 (h k i) := I.1 k i
theorem hs_o {h : ph_H} {k i : Nat} {v : Int32} {k' i' : Nat} (q : ¬ (k' = k ∧ i' = i)) : hs h k i v k' i' = h k' i' := by
  unfold hs
  by_cases e : k' = k
  · subst e
    rw [va_up_self]
    have : i' ≠ i := fun z => q ⟨rfl, z⟩
    simp [upd, this]
  · rw [va_up_ne _ _ e]
theorem IV_s {h : ph_H} (I : IVm h) {k i : Nat} {v : Int32} (f : iv (tM k i).1 (tM k i).2 v) : IVm (hs h k i v) := by
  intro k' i'
  by_cases e : k' = k ∧ i' = i
  · obtain ⟨rfl, rfl⟩ := e
    rw [hz_e]
    exact f
  · rw [hs_o e]
    exact I k' i'
theorem ZM_s {z : zT} {h : ph_H} (I : ZM z h) {k i : Nat} {v : Int32} (q : gz k i = false) : ZM z (hs h k i v) := by
  intro k' i' e
  by_cases c : k' = k ∧ i' = i
  · obtain ⟨rfl, rfl⟩ := c
    rw [q] at e
    exact absurd e (by decide)
  · rw [hs_o c]
    exact I k' i' e
theorem ZM_g {z : zT} {h : ph_H} (I : ZM z h) {k i : Nat} {v : Int32} : ZM (hs z k i v) (hs h k i v) := by
  intro k' i' e
  by_cases c : k' = k ∧ i' = i
  · obtain ⟨rfl, rfl⟩ := c
    rw [hz_e, hz_e]
  · rw [hs_o c, hs_o c]
    exact I k' i' e
theorem okG_k {k : Nat} (q : okG k = true) : ¬ k = 10 ∧ ¬ k = 11 := by
  refine ⟨?_, ?_⟩
  · rintro rfl
    exact absurd q (by decide)
  · rintro rfl
    exact absurd q (by decide)
theorem okM_z {k i : Nat} (q : okM k i = true) : gz k i = false ∧ okG k = true := by
  unfold okM at q
  simp only [Bool.and_eq_true, Bool.not_eq_true'] at q
  exact q
theorem KV_s {h : ph_H} (I : KV h) {k i : Nat} {v : Int32} (q : okG k = true) : KV (hs h k i v) := by
  obtain ⟨q3, q4⟩ := okG_k q
  intro j
  rw [hs_o (fun e => q3 e.1.symm), hs_o (fun e => q4 e.1.symm)]
  exact I j
theorem IMs {z : zT} {h : ph_H} (I : IM z h) {k i : Nat} {v : Int32} (f : iv (tM k i).1 (tM k i).2 v) (q : okM k i = true) : IM z (hs h k i v) := ⟨IV_s I.1 f, KV_s I.2.1 (okM_z q).2, ZM_s I.2.2 (okM_z q).1⟩
/-- a ghost's number changes -/
theorem IMg {z : zT} {h : ph_H} (I : IM z h) {k i : Nat} {v : Int32} (f : iv (tM k i).1 (tM k i).2 v) (q : okG k = true) : IM (hs z k i v) (hs h k i v) := ⟨IV_s I.1 f, KV_s I.2.1 q, ZM_g I.2.2⟩
theorem IMz {z : zT} {h : ph_H} (I : IM z h) (k i : Nat) (q : gz k i = true) : h k i = z k i := I.2.2 k i q
theorem IMk0 {z : zT} {h : ph_H} (I : IM z h) (i : Nat) : IM z (hs h 10 i 0) := by
  refine ⟨IV_s (k := 10) (i := i) I.1 (show iv 0 3 0 from ⟨by decide, by decide⟩), fun j => ?_, ZM_s I.2.2 rfl⟩
  by_cases e : j = i
  · subst e
    exact Or.inl hz_e
  · rw [hs_o (fun z => e z.2), hs_o (fun z => absurd z.1 (by decide))]
    exact I.2.1 j
/-- a slot gets a kind and a value -/
theorem IMkv {z : zT} {h : ph_H} (I : IM z h) (i : Nat) {k v : Int32} (f : iv 0 3 k) (q : k = 0 ∨ iv 0 11 v) : IM z (hs (hs h 10 i k) 11 i v) := by
  refine ⟨IV_s (k := 11) (i := i) (IV_s (k := 10) (i := i) I.1 f) (iv_any v), fun j => ?_, ZM_s (ZM_s I.2.2 rfl) rfl⟩
  by_cases e : j = i
  · subst e
    rw [hz_e, hs_o (fun z => absurd z.1 (by decide)), hz_e]
    exact q
  · rw [hs_o (fun z => absurd z.1 (by decide)), hs_o (fun z => e z.2), hs_o (fun z => e z.2), hs_o (fun z => absurd z.1 (by decide))]
    exact I.2.1 j
theorem KVn {z : zT} {h : ph_H} (I : IM z h) {i : Nat} {a b : Int} (f : iv a b (h 10 i)) (q : decide (0 < a) = true) : iv 0 11 (h 11 i) := by
  rcases I.2.1 i with e | e
  · exact absurd e (iv_ne0 f (by simp only [decide_eq_true_eq] at q; simp [q]))
  · exact e
/-- a slot of kind 0 gets a value -/
theorem IMv0 {z : zT} {h : ph_H} (I : IM z h) {i : Nat} {v : Int32} (q : h 10 i = 0) : IM z (hs h 11 i v) := by
  refine ⟨IV_s (k := 11) (i := i) I.1 (iv_any v), fun j => ?_, ZM_s I.2.2 rfl⟩
  by_cases e : j = i
  · subst e
    rw [hs_o (fun z => absurd z.1 (by decide))]
    exact Or.inl q
  · rw [hs_o (fun z => absurd z.1 (by decide)), hs_o (fun z => e z.2)]
    exact I.2.1 j
def Qf (h : ph_H) (r : Int32) : Prop := iv (-1) 3 r ∧ (¬ r < 0 → iv 0 23 (h 12 (r.toNatClampNeg)))
def WOK (o a b c : Int32) (h : ph_H) : Prop := (o = 8 → iv 0 16 (h 11 b.toNatClampNeg) ∧ iv 0 11 (h 0 18)) ∧ (o = 9 → iv 0 11 (h 11 b.toNatClampNeg) ∧ iv 0 15 (h 11 c.toNatClampNeg)) ∧ (o = 10 → iv 0 11 (h 11 a.toNatClampNeg) ∧ iv 0 15 (h 11 b.toNatClampNeg)) ∧ (o = 11 → iv 0 11 (h 0 18)) ∧ (o = 12 → iv 0 11 (h 11 a.toNatClampNeg)) ∧ (o = 13 → iv 0 11 (h 11 a.toNatClampNeg)) ∧ (o = 14 → iv 0 11 (h 11 a.toNatClampNeg)) ∧ (o = 15 → iv 0 11 (h 11 a.toNatClampNeg)) ∧ (o = 16 → h 0 33 = 0 → ¬ h 0 23 = h 0 7)
def Qw (o a b c : Int32) (h : ph_H) (r : Int32) : Prop := iv 0 19 r ∧ (r = 0 → WOK o a b c h)
def wz (o : Int32) (z : zT) (v : Int32) : zT := if o = 16 then hs z 0 23 (v + 1) else z
theorem wz_p {o v : Int32} {z : zT} {h : ph_H} (c : o = 16) (I : IM (hs z 0 23 (v + 1)) h) : IM (wz o z v) h := by
  unfold wz
  rw [if_pos c]
  exact I
theorem wz_n {o v : Int32} {z : zT} {h : ph_H} (c : ¬ o = 16) (I : IM z h) : IM (wz o z v) h := by
  unfold wz
  rw [if_neg c]
  exact I
theorem SX12_set {z : zT} (a0 a1 a2 : Int32) (h : ph_H) (I : IM z h) (f0 : iv 0 27 a0) (f1 : iv 0 3 a1) (q : a1 = 0 ∨ iv 0 11 a2) : PX12_set a0 a1 a2 h ∧ IM z (FX12_set a0 a1 a2 h) := ⟨⟨iv_in f0 rfl, iv_in f0 rfl, trivial⟩, IMkv I _ f1 q⟩
end MG_09_jinv
section MG_10_s0
-- X12_cell
set_option maxRecDepth 100000 in
set_option maxHeartbeats 4000000 in
theorem SX12_cell {z : zT} (a0 : Int32) (a1 : Int32) (h : ph_H) (I : IM z h) : PX12_cell a0 a1 h ∧ Qi z (-1) 0 (FX12_cell a0 a1 h) := by
  unfold PX12_cell FX12_cell
  have I1 : IM z (hs h 0 0 0) := IMs I (k := 0) (i := 0) (v := 0) (iv_any 0) rfl
  refine sf_n isIn_p ?_
  refine sf_if (fun c2 => ?_) (fun c2 => ?_)
  · have f3 : iv 0 0 (FX12_isIn a0.toInt64 0 11) := iv_eql (isIn_b (x := a0.toInt64) (l := 0) (u := 11)) (iv_lit (lo := 0) (hi := 0) (x := 0) rfl) c2 rfl
    exact ⟨trivial, Qi_mk (iv_w (c := (-1)) (d := 0) (iv_lit (lo := (-1)) (hi := (-1)) (x := (-1)) rfl) rfl) I1⟩
  · have f4 : iv 0 11 a0 := isIn_iv (iv_any a0) (lw_lit (lo := 0) (hi := 0) (x := 0) rfl) (lw_lit (lo := 11) (hi := 11) (x := 11) rfl) c2 rfl
    have f5 : iv 1 1 (FX12_isIn a0.toInt64 0 11) := iv_nel (isIn_b (x := a0.toInt64) (l := 0) (u := 11)) c2 rfl
    refine sf_n (iv_in f4 rfl) ?_
    have I6 : IM z (hs (hs h 0 0 0) 6 a0.toNatClampNeg a1) := IMs I1 (k := 6) (i := a0.toNatClampNeg) (v := a1) (iv_any a1) rfl
    exact ⟨trivial, Qi_mk (iv_w (c := (-1)) (d := 0) (iv_lit (lo := 0) (hi := 0) (x := 0) rfl) rfl) I6⟩

-- X12_begin
set_option maxRecDepth 100000 in
set_option maxHeartbeats 4000000 in
theorem SX12_begin_45 {z : zT} : ∀ (q : Nat) (x1 : Int32) (h : ph_H), IM z h → iv 0 4 x1 → 4 - (x1).toInt < ((q : Nat) : Int) → PX12_begin_45  q x1 h ∧ IM (hs (hs z 0 23 0) 0 24 0) (FX12_begin_45  q x1 h) := by
  intro q
  induction q with
  | zero =>
    intro x1 h I f_x1 mq
    exact mu_zu f_x1 mq rfl
  | succ q ih =>
    intro x1 h I f_x1 mq
    unfold PX12_begin_45 FX12_begin_45
    refine sf_if (fun c1 => ?_) (fun c1 => ?_)
    · have f2 : iv 4 4 x1 := iv_ler f_x1 (iv_lit (lo := 4) (hi := 4) (x := 4) rfl) c1 rfl
      have I3 : IM z (hs h 0 18 0) := IMs I (k := 0) (i := 18) (v := 0) (iv_w (c := 0) (d := 12) (iv_lit (lo := 0) (hi := 0) (x := 0) rfl) rfl) rfl
      have I4 : IM (hs z 0 23 0) (hs (hs h 0 18 0) 0 23 0) := IMg I3 (k := 0) (i := 23) (v := 0) (iv_w (c := 0) (d := 30) (iv_lit (lo := 0) (hi := 0) (x := 0) rfl) rfl) rfl
      have I5 : IM (hs (hs z 0 23 0) 0 24 0) (hs (hs (hs h 0 18 0) 0 23 0) 0 24 0) := IMg I4 (k := 0) (i := 24) (v := 0) (iv_w (c := 0) (d := 300) (iv_lit (lo := 0) (hi := 0) (x := 0) rfl) rfl) rfl
      have I6 : IM (hs (hs z 0 23 0) 0 24 0) (hs (hs (hs (hs h 0 18 0) 0 23 0) 0 24 0) 0 25 0) := IMs I5 (k := 0) (i := 25) (v := 0) (iv_any 0) rfl
      have I7 : IM (hs (hs z 0 23 0) 0 24 0) (hs (hs (hs (hs (hs h 0 18 0) 0 23 0) 0 24 0) 0 25 0) 0 26 0) := IMs I6 (k := 0) (i := 26) (v := 0) (iv_w (c := 0) (d := 3) (iv_lit (lo := 0) (hi := 0) (x := 0) rfl) rfl) rfl
      have I8 : IM (hs (hs z 0 23 0) 0 24 0) (hs (hs (hs (hs (hs (hs h 0 18 0) 0 23 0) 0 24 0) 0 25 0) 0 26 0) 0 35 0) := IMs I7 (k := 0) (i := 35) (v := 0) (iv_w (c := 0) (d := 1) (iv_lit (lo := 0) (hi := 0) (x := 0) rfl) rfl) rfl
      exact ⟨trivial, I8⟩
    · have f9 : iv 0 3 x1 := iv_ltl f_x1 (iv_lit (lo := 4) (hi := 4) (x := 4) rfl) (nle c1) rfl
      refine sf_n (iv_in f9 rfl) ?_
      have f10 : iv 0 24 (h 1 (x1.toNatClampNeg)) := IMv I 1 _
      refine sf_if (fun c11 => ?_) (fun c11 => ?_)
      · have f12 : iv 0 0 (h 1 (x1.toNatClampNeg)) := iv_lel f10 (iv_lit (lo := 0) (hi := 0) (x := 0) rfl) c11 rfl
        unfold PX12_begin_70 FX12_begin_70
        refine sf_n (iv_in f9 rfl) ?_
        have I13 : IM z (hs h 12 x1.toNatClampNeg 24) := IMs I (k := 12) (i := x1.toNatClampNeg) (v := 24) (iv_w (c := 0) (d := 24) (iv_lit (lo := 24) (hi := 24) (x := 24) rfl) rfl) rfl
        refine sf_if (fun c14 => ?_) (fun c14 => ?_)
        · have f15 : iv 0 0 x1 := iv_eql f9 (iv_lit (lo := 0) (hi := 0) (x := 0) rfl) c14 rfl
          unfold PX12_begin_85 FX12_begin_85
          refine sf_n (iv_in f15 rfl) ?_
          have I16 : IM z (hs (hs h 12 x1.toNatClampNeg 24) 13 x1.toNatClampNeg (vp_nar .boolean 1)) := IMs I13 (k := 13) (i := x1.toNatClampNeg) (v := (vp_nar .boolean 1)) (nar_z 1) rfl
          refine sf_n (iv_in f15 rfl) ?_
          have I17 : IM z (hs (hs (hs h 12 x1.toNatClampNeg 24) 13 x1.toNatClampNeg (vp_nar .boolean 1)) 14 x1.toNatClampNeg (-1)) := IMs I16 (k := 14) (i := x1.toNatClampNeg) (v := (-1)) (iv_w (c := (-1)) (d := 11) (iv_lit (lo := (-1)) (hi := (-1)) (x := (-1)) rfl) rfl) rfl
          refine sf_n (iv_in f15 rfl) ?_
          have I18 : IM z (hs (hs (hs (hs h 12 x1.toNatClampNeg 24) 13 x1.toNatClampNeg (vp_nar .boolean 1)) 14 x1.toNatClampNeg (-1)) 15 x1.toNatClampNeg (-1)) := IMs I17 (k := 15) (i := x1.toNatClampNeg) (v := (-1)) (iv_w (c := (-1)) (d := 11) (iv_lit (lo := (-1)) (hi := (-1)) (x := (-1)) rfl) rfl) rfl
          have f19 : iv 1 1 (x1 + 1) := iv_add f15 (iv_lit (lo := 1) (hi := 1) (x := 1) rfl) rfl
          exact ih (x1 + 1) (hs (hs (hs (hs h 12 x1.toNatClampNeg 24) 13 x1.toNatClampNeg (vp_nar .boolean 1)) 14 x1.toNatClampNeg (-1)) 15 x1.toNatClampNeg (-1)) I18 (iv_w (c := 0) (d := 4) f19 rfl) (mu_up f15 mq rfl)
        · have f20 : iv 1 3 x1 := iv_nel f9 c14 rfl
          unfold PX12_begin_85 FX12_begin_85
          refine sf_n (iv_in f20 rfl) ?_
          have I21 : IM z (hs (hs h 12 x1.toNatClampNeg 24) 13 x1.toNatClampNeg (vp_nar .boolean 0)) := IMs I13 (k := 13) (i := x1.toNatClampNeg) (v := (vp_nar .boolean 0)) (nar_z 0) rfl
          refine sf_n (iv_in f20 rfl) ?_
          have I22 : IM z (hs (hs (hs h 12 x1.toNatClampNeg 24) 13 x1.toNatClampNeg (vp_nar .boolean 0)) 14 x1.toNatClampNeg (-1)) := IMs I21 (k := 14) (i := x1.toNatClampNeg) (v := (-1)) (iv_w (c := (-1)) (d := 11) (iv_lit (lo := (-1)) (hi := (-1)) (x := (-1)) rfl) rfl) rfl
          refine sf_n (iv_in f20 rfl) ?_
          have I23 : IM z (hs (hs (hs (hs h 12 x1.toNatClampNeg 24) 13 x1.toNatClampNeg (vp_nar .boolean 0)) 14 x1.toNatClampNeg (-1)) 15 x1.toNatClampNeg (-1)) := IMs I22 (k := 15) (i := x1.toNatClampNeg) (v := (-1)) (iv_w (c := (-1)) (d := 11) (iv_lit (lo := (-1)) (hi := (-1)) (x := (-1)) rfl) rfl) rfl
          have f24 : iv 2 4 (x1 + 1) := iv_add f20 (iv_lit (lo := 1) (hi := 1) (x := 1) rfl) rfl
          exact ih (x1 + 1) (hs (hs (hs (hs h 12 x1.toNatClampNeg 24) 13 x1.toNatClampNeg (vp_nar .boolean 0)) 14 x1.toNatClampNeg (-1)) 15 x1.toNatClampNeg (-1)) I23 (iv_w (c := 0) (d := 4) f24 rfl) (mu_up f20 mq rfl)
      · have f25 : iv 1 24 (h 1 (x1.toNatClampNeg)) := iv_ltr f10 (iv_lit (lo := 0) (hi := 0) (x := 0) rfl) (nle c11) rfl
        unfold PX12_begin_70 FX12_begin_70
        refine sf_n (iv_in f9 rfl) ?_
        have I26 : IM z (hs h 12 x1.toNatClampNeg 0) := IMs I (k := 12) (i := x1.toNatClampNeg) (v := 0) (iv_w (c := 0) (d := 24) (iv_lit (lo := 0) (hi := 0) (x := 0) rfl) rfl) rfl
        refine sf_if (fun c27 => ?_) (fun c27 => ?_)
        · have f28 : iv 0 0 x1 := iv_eql f9 (iv_lit (lo := 0) (hi := 0) (x := 0) rfl) c27 rfl
          unfold PX12_begin_85 FX12_begin_85
          refine sf_n (iv_in f28 rfl) ?_
          have I29 : IM z (hs (hs h 12 x1.toNatClampNeg 0) 13 x1.toNatClampNeg (vp_nar .boolean 1)) := IMs I26 (k := 13) (i := x1.toNatClampNeg) (v := (vp_nar .boolean 1)) (nar_z 1) rfl
          refine sf_n (iv_in f28 rfl) ?_
          have I30 : IM z (hs (hs (hs h 12 x1.toNatClampNeg 0) 13 x1.toNatClampNeg (vp_nar .boolean 1)) 14 x1.toNatClampNeg (-1)) := IMs I29 (k := 14) (i := x1.toNatClampNeg) (v := (-1)) (iv_w (c := (-1)) (d := 11) (iv_lit (lo := (-1)) (hi := (-1)) (x := (-1)) rfl) rfl) rfl
          refine sf_n (iv_in f28 rfl) ?_
          have I31 : IM z (hs (hs (hs (hs h 12 x1.toNatClampNeg 0) 13 x1.toNatClampNeg (vp_nar .boolean 1)) 14 x1.toNatClampNeg (-1)) 15 x1.toNatClampNeg (-1)) := IMs I30 (k := 15) (i := x1.toNatClampNeg) (v := (-1)) (iv_w (c := (-1)) (d := 11) (iv_lit (lo := (-1)) (hi := (-1)) (x := (-1)) rfl) rfl) rfl
          have f32 : iv 1 1 (x1 + 1) := iv_add f28 (iv_lit (lo := 1) (hi := 1) (x := 1) rfl) rfl
          exact ih (x1 + 1) (hs (hs (hs (hs h 12 x1.toNatClampNeg 0) 13 x1.toNatClampNeg (vp_nar .boolean 1)) 14 x1.toNatClampNeg (-1)) 15 x1.toNatClampNeg (-1)) I31 (iv_w (c := 0) (d := 4) f32 rfl) (mu_up f28 mq rfl)
        · have f33 : iv 1 3 x1 := iv_nel f9 c27 rfl
          unfold PX12_begin_85 FX12_begin_85
          refine sf_n (iv_in f33 rfl) ?_
          have I34 : IM z (hs (hs h 12 x1.toNatClampNeg 0) 13 x1.toNatClampNeg (vp_nar .boolean 0)) := IMs I26 (k := 13) (i := x1.toNatClampNeg) (v := (vp_nar .boolean 0)) (nar_z 0) rfl
          refine sf_n (iv_in f33 rfl) ?_
          have I35 : IM z (hs (hs (hs h 12 x1.toNatClampNeg 0) 13 x1.toNatClampNeg (vp_nar .boolean 0)) 14 x1.toNatClampNeg (-1)) := IMs I34 (k := 14) (i := x1.toNatClampNeg) (v := (-1)) (iv_w (c := (-1)) (d := 11) (iv_lit (lo := (-1)) (hi := (-1)) (x := (-1)) rfl) rfl) rfl
          refine sf_n (iv_in f33 rfl) ?_
          have I36 : IM z (hs (hs (hs (hs h 12 x1.toNatClampNeg 0) 13 x1.toNatClampNeg (vp_nar .boolean 0)) 14 x1.toNatClampNeg (-1)) 15 x1.toNatClampNeg (-1)) := IMs I35 (k := 15) (i := x1.toNatClampNeg) (v := (-1)) (iv_w (c := (-1)) (d := 11) (iv_lit (lo := (-1)) (hi := (-1)) (x := (-1)) rfl) rfl) rfl
          have f37 : iv 2 4 (x1 + 1) := iv_add f33 (iv_lit (lo := 1) (hi := 1) (x := 1) rfl) rfl
          exact ih (x1 + 1) (hs (hs (hs (hs h 12 x1.toNatClampNeg 0) 13 x1.toNatClampNeg (vp_nar .boolean 0)) 14 x1.toNatClampNeg (-1)) 15 x1.toNatClampNeg (-1)) I36 (iv_w (c := 0) (d := 4) f37 rfl) (mu_up f33 mq rfl)
set_option maxRecDepth 100000 in
set_option maxHeartbeats 4000000 in
theorem SX12_begin_2 {z : zT} : ∀ (q : Nat) (x1 : Int32) (h : ph_H), IM z h → iv 0 28 x1 → 28 - (x1).toInt < ((q : Nat) : Int) → PX12_begin_2  q x1 h ∧ IM (hs (hs z 0 23 0) 0 24 0) (FX12_begin_2  q x1 h) := by
  intro q
  induction q with
  | zero =>
    intro x1 h I f_x1 mq
    exact mu_zu f_x1 mq rfl
  | succ q ih =>
    intro x1 h I f_x1 mq
    unfold PX12_begin_2 FX12_begin_2
    refine sf_if (fun c1 => ?_) (fun c1 => ?_)
    · have f2 : iv 28 28 x1 := iv_ler f_x1 (iv_lit (lo := 28) (hi := 28) (x := 28) rfl) c1 rfl
      exact SX12_begin_45 2000 0 h I (iv_w (c := 0) (d := 4) (iv_lit (lo := 0) (hi := 0) (x := 0) rfl) rfl) (mu_0u (iv_lit (lo := 0) (hi := 0) (x := 0) rfl) rfl)
    · have f3 : iv 0 27 x1 := iv_ltl f_x1 (iv_lit (lo := 28) (hi := 28) (x := 28) rfl) (nle c1) rfl
      refine sf_n (iv_in f3 rfl) ?_
      have I4 : IM z (hs h 10 x1.toNatClampNeg 0) := IMk0 I x1.toNatClampNeg
      refine sf_if (fun c5 => ?_) (fun c5 => ?_)
      · have f6 : iv 12 27 x1 := iv_ler f3 (iv_lit (lo := 12) (hi := 12) (x := 12) rfl) c5 rfl
        unfold PX12_begin_36 FX12_begin_36
        refine sf_n (iv_in f6 rfl) ?_
        have I7 : IM z (hs (hs h 10 x1.toNatClampNeg 0) 11 x1.toNatClampNeg 0) := IMv0 I4 hz_e
        have f8 : iv 13 28 (x1 + 1) := iv_add f6 (iv_lit (lo := 1) (hi := 1) (x := 1) rfl) rfl
        exact ih (x1 + 1) (hs (hs h 10 x1.toNatClampNeg 0) 11 x1.toNatClampNeg 0) I7 (iv_w (c := 0) (d := 28) f8 rfl) (mu_up f6 mq rfl)
      · have f9 : iv 0 11 x1 := iv_ltl f3 (iv_lit (lo := 12) (hi := 12) (x := 12) rfl) (nle c5) rfl
        refine sf_n (iv_in f9 rfl) ?_
        unfold PX12_begin_36 FX12_begin_36
        refine sf_n (iv_in f9 rfl) ?_
        have I10 : IM z (hs (hs h 10 x1.toNatClampNeg 0) 11 x1.toNatClampNeg (h 6 (x1.toNatClampNeg))) := IMv0 I4 hz_e
        have f11 : iv 1 12 (x1 + 1) := iv_add f9 (iv_lit (lo := 1) (hi := 1) (x := 1) rfl) rfl
        exact ih (x1 + 1) (hs (hs h 10 x1.toNatClampNeg 0) 11 x1.toNatClampNeg (h 6 (x1.toNatClampNeg))) I10 (iv_w (c := 0) (d := 28) f11 rfl) (mu_up f9 mq rfl)
set_option maxRecDepth 100000 in
set_option maxHeartbeats 4000000 in
theorem SX12_begin {z : zT} (h : ph_H) (I : IM z h) : PX12_begin h ∧ IM (hs (hs z 0 23 0) 0 24 0) (FX12_begin h) := by
  unfold PX12_begin FX12_begin
  exact SX12_begin_2 2000 0 h I (iv_w (c := 0) (d := 28) (iv_lit (lo := 0) (hi := 0) (x := 0) rfl) rfl) (mu_0u (iv_lit (lo := 0) (hi := 0) (x := 0) rfl) rfl)

-- X12_local
set_option maxRecDepth 100000 in
set_option maxHeartbeats 4000000 in
theorem SX12_local {z : zT} (a0 : Int32) (a1 : Int32) (h : ph_H) (I : IM z h) (f_a0 : iv 0 3 a0) : PX12_local a0 a1 h ∧ iv 12 27 (FX12_local a0 a1 h) := by
  unfold PX12_local FX12_local
  have f1 : iv 0 12 (4 * a0) := iv_mul (c := 4) rfl f_a0 rfl
  have f2 : iv 12 24 (12 + (4 * a0)) := iv_add (iv_lit (lo := 12) (hi := 12) (x := 12) rfl) f1 rfl
  refine sf_n (modulo_p (m := 4) (by decide) (by decide)) ?_
  have f3 : iv 0 3 (FX12_modulo a1 4) := modulo_iv (m := 4) rfl
  have f4 : iv 12 27 ((12 + (4 * a0)) + (FX12_modulo a1 4)) := iv_add f2 f3 rfl
  exact ⟨trivial, f4⟩

-- X12_isLock
set_option maxRecDepth 100000 in
set_option maxHeartbeats 4000000 in
theorem SX12_isLock {z : zT} (a0 : Int32) (h : ph_H) (I : IM z h) (f_a0 : iv 0 27 a0) : PX12_isLock a0 h ∧ Qc 0 1 (fun r => ¬ r = 0 → iv 2 3 (h 10 (a0.toNatClampNeg))) (FX12_isLock a0 h) := by
  unfold PX12_isLock FX12_isLock
  refine sf_n (iv_in f_a0 rfl) ?_
  have f1 : iv 0 3 (h 10 (a0.toNatClampNeg)) := IMv I 10 _
  refine sf_if (fun c2 => ?_) (fun c2 => ?_)
  · have f3 : iv 2 2 (h 10 (a0.toNatClampNeg)) := iv_eql f1 (iv_lit (lo := 2) (hi := 2) (x := 2) rfl) c2 rfl
    have f4 : iv 0 11 (h 11 (a0.toNatClampNeg)) := KVn I f3 rfl
    unfold PX12_isLock_20 FX12_isLock_20
    exact ⟨trivial, (iv_w (c := 0) (d := 1) (iv_lit (lo := 1) (hi := 1) (x := 1) rfl) rfl), fun _ => (iv_w (c := 2) (d := 3) f3 rfl)⟩
  · refine sf_n (iv_in f_a0 rfl) ?_
    refine sf_if (fun c5 => ?_) (fun c5 => ?_)
    · have f6 : iv 3 3 (h 10 (a0.toNatClampNeg)) := iv_eql f1 (iv_lit (lo := 3) (hi := 3) (x := 3) rfl) c5 rfl
      have f7 : iv 0 11 (h 11 (a0.toNatClampNeg)) := KVn I f6 rfl
      unfold PX12_isLock_20 FX12_isLock_20
      exact ⟨trivial, (iv_w (c := 0) (d := 1) (iv_lit (lo := 1) (hi := 1) (x := 1) rfl) rfl), fun _ => (iv_w (c := 2) (d := 3) f6 rfl)⟩
    · have f8 : iv 0 2 (h 10 (a0.toNatClampNeg)) := iv_nel f1 c5 rfl
      exact ⟨trivial, (iv_w (c := 0) (d := 1) (iv_lit (lo := 0) (hi := 0) (x := 0) rfl) rfl), fun z => absurd rfl z⟩

-- X12_canGo
set_option maxRecDepth 100000 in
set_option maxHeartbeats 4000000 in
theorem SX12_canGo {z : zT} (a0 : Int32) (h : ph_H) (I : IM z h) (f_a0 : iv 0 3 a0) : PX12_canGo a0 h ∧ Qc 0 1 (fun r => ¬ r = 0 → iv 0 23 (h 12 (a0.toNatClampNeg))) (FX12_canGo a0 h) := by
  unfold PX12_canGo FX12_canGo
  refine sf_n (iv_in f_a0 rfl) ?_
  have f1 : iv 0 1 (h 13 (a0.toNatClampNeg)) := IMv I 13 _
  refine sf_if (fun c2 => ?_) (fun c2 => ?_)
  · have f3 : iv 0 0 (h 13 (a0.toNatClampNeg)) := iv_eql f1 (iv_lit (lo := 0) (hi := 0) (x := 0) rfl) c2 rfl
    exact ⟨trivial, (iv_w (c := 0) (d := 1) (iv_lit (lo := 0) (hi := 0) (x := 0) rfl) rfl), fun z => absurd rfl z⟩
  · have f4 : iv 1 1 (h 13 (a0.toNatClampNeg)) := iv_nel f1 c2 rfl
    refine sf_n (iv_in f_a0 rfl) ?_
    have f5 : iv 0 24 (h 12 (a0.toNatClampNeg)) := IMv I 12 _
    refine sf_if (fun c6 => ?_) (fun c6 => ?_)
    · have f7 : iv 24 24 (h 12 (a0.toNatClampNeg)) := iv_eql f5 (iv_lit (lo := 24) (hi := 24) (x := 24) rfl) c6 rfl
      exact ⟨trivial, (iv_w (c := 0) (d := 1) (iv_lit (lo := 0) (hi := 0) (x := 0) rfl) rfl), fun z => absurd rfl z⟩
    · have f8 : iv 0 23 (h 12 (a0.toNatClampNeg)) := iv_nel f5 c6 rfl
      refine sf_n (iv_in f_a0 rfl) ?_
      have f9 : iv (-1) 11 (h 14 (a0.toNatClampNeg)) := IMv I 14 _
      refine sf_if (fun c10 => ?_) (fun c10 => ?_)
      · have f11 : iv (-1) (-1) (h 14 (a0.toNatClampNeg)) := iv_ltl f9 (iv_lit (lo := 0) (hi := 0) (x := 0) rfl) c10 rfl
        refine sf_n (iv_in f_a0 rfl) ?_
        have f12 : iv (-1) 11 (h 15 (a0.toNatClampNeg)) := IMv I 15 _
        refine sf_if (fun c13 => ?_) (fun c13 => ?_)
        · have f14 : iv (-1) (-1) (h 15 (a0.toNatClampNeg)) := iv_ltl f12 (iv_lit (lo := 0) (hi := 0) (x := 0) rfl) c13 rfl
          have f15 : iv 0 72 (24 * a0) := iv_mul (c := 24) rfl f_a0 rfl
          refine sf_n (iv_in f_a0 rfl) ?_
          have f16 : iv 0 95 ((24 * a0) + (h 12 (a0.toNatClampNeg))) := iv_add f15 f8 rfl
          refine sf_n (iv_in f16 rfl) ?_
          have s17 := SX12_local (z := z) a0 (h 3 (((24 * a0) + (h 12 (a0.toNatClampNeg))).toNatClampNeg)) h I f_a0
          refine sf_n s17.1 ?_
          refine sf_n (iv_in f16 rfl) ?_
          refine sf_if (fun c18 => ?_) (fun c18 => ?_)
          · have f19 : iv 12 12 (h 2 (((24 * a0) + (h 12 (a0.toNatClampNeg))).toNatClampNeg)) := iv_eql (iv_any (h 2 (((24 * a0) + (h 12 (a0.toNatClampNeg))).toNatClampNeg))) (iv_lit (lo := 12) (hi := 12) (x := 12) rfl) c18 rfl
            have s20 := SX12_isLock (z := z) (FX12_local a0 (h 3 (((24 * a0) + (h 12 (a0.toNatClampNeg))).toNatClampNeg)) h) h I (iv_w (c := 0) (d := 27) s17.2 rfl)
            refine sf_n s20.1 ?_
            refine sf_if (fun c21 => ?_) (fun c21 => ?_)
            · have f22 : iv 0 0 (FX12_isLock (FX12_local a0 (h 3 (((24 * a0) + (h 12 (a0.toNatClampNeg))).toNatClampNeg)) h) h) := iv_eql s20.2.1 (iv_lit (lo := 0) (hi := 0) (x := 0) rfl) c21 rfl
              unfold PX12_canGo_107 FX12_canGo_107
              unfold PX12_canGo_108 FX12_canGo_108
              refine sf_if (fun c23 => ?_) (fun c23 => ?_)
              · unfold PX12_canGo_144 FX12_canGo_144
                exact ⟨trivial, (iv_w (c := 0) (d := 1) (iv_lit (lo := 1) (hi := 1) (x := 1) rfl) rfl), fun _ => f8⟩
              · exact absurd rfl c23
            · have f24 : iv 2 3 (h 10 ((FX12_local a0 (h 3 (((24 * a0) + (h 12 (a0.toNatClampNeg))).toNatClampNeg)) h).toNatClampNeg)) := iv_and (iv_any _) (s20.2.2 c21) rfl
              have f25 : iv 0 11 (h 11 ((FX12_local a0 (h 3 (((24 * a0) + (h 12 (a0.toNatClampNeg))).toNatClampNeg)) h).toNatClampNeg)) := KVn I f24 rfl
              have f26 : iv 1 1 (FX12_isLock (FX12_local a0 (h 3 (((24 * a0) + (h 12 (a0.toNatClampNeg))).toNatClampNeg)) h) h) := iv_nel s20.2.1 c21 rfl
              unfold PX12_canGo_108 FX12_canGo_108
              refine sf_if (fun c27 => ?_) (fun c27 => ?_)
              · have f28 : iv 1 0 1 := iv_eql (iv_lit (lo := 1) (hi := 1) (x := 1) rfl) (iv_lit (lo := 0) (hi := 0) (x := 0) rfl) c27 rfl
                exact iv_no f28 rfl
              · refine sf_n (iv_in s17.2 rfl) ?_
                refine sf_n (iv_in f25 rfl) ?_
                refine sf_if (fun c29 => ?_) (fun c29 => ?_)
                · have f30 : iv (-2147483648) (-1) (h 17 ((h 11 ((FX12_local a0 (h 3 (((24 * a0) + (h 12 (a0.toNatClampNeg))).toNatClampNeg)) h).toNatClampNeg)).toNatClampNeg)) := iv_ltl (iv_any (h 17 ((h 11 ((FX12_local a0 (h 3 (((24 * a0) + (h 12 (a0.toNatClampNeg))).toNatClampNeg)) h).toNatClampNeg)).toNatClampNeg))) (iv_lit (lo := 0) (hi := 0) (x := 0) rfl) c29 rfl
                  unfold PX12_canGo_144 FX12_canGo_144
                  exact ⟨trivial, (iv_w (c := 0) (d := 1) (iv_lit (lo := 1) (hi := 1) (x := 1) rfl) rfl), fun _ => f8⟩
                · have f31 : iv 0 2147483647 (h 17 ((h 11 ((FX12_local a0 (h 3 (((24 * a0) + (h 12 (a0.toNatClampNeg))).toNatClampNeg)) h).toNatClampNeg)).toNatClampNeg)) := iv_ler (iv_any (h 17 ((h 11 ((FX12_local a0 (h 3 (((24 * a0) + (h 12 (a0.toNatClampNeg))).toNatClampNeg)) h).toNatClampNeg)).toNatClampNeg))) (iv_lit (lo := 0) (hi := 0) (x := 0) rfl) (nlt c29) rfl
                  refine sf_n (iv_in s17.2 rfl) ?_
                  refine sf_n (iv_in f25 rfl) ?_
                  refine sf_if (fun c32 => ?_) (fun c32 => ?_)
                  · have f33 : iv 0 3 (h 17 ((h 11 ((FX12_local a0 (h 3 (((24 * a0) + (h 12 (a0.toNatClampNeg))).toNatClampNeg)) h).toNatClampNeg)).toNatClampNeg)) := iv_eql f31 f_a0 c32 rfl
                    unfold PX12_canGo_144 FX12_canGo_144
                    exact ⟨trivial, (iv_w (c := 0) (d := 1) (iv_lit (lo := 1) (hi := 1) (x := 1) rfl) rfl), fun _ => f8⟩
                  · exact ⟨trivial, (iv_w (c := 0) (d := 1) (iv_lit (lo := 0) (hi := 0) (x := 0) rfl) rfl), fun z => absurd rfl z⟩
          · unfold PX12_canGo_107 FX12_canGo_107
            unfold PX12_canGo_108 FX12_canGo_108
            refine sf_if (fun c34 => ?_) (fun c34 => ?_)
            · unfold PX12_canGo_144 FX12_canGo_144
              exact ⟨trivial, (iv_w (c := 0) (d := 1) (iv_lit (lo := 1) (hi := 1) (x := 1) rfl) rfl), fun _ => f8⟩
            · exact absurd rfl c34
        · have f35 : iv 0 11 (h 15 (a0.toNatClampNeg)) := iv_ler f12 (iv_lit (lo := 0) (hi := 0) (x := 0) rfl) (nlt c13) rfl
          refine sf_n (iv_in f_a0 rfl) ?_
          refine sf_n (iv_in f35 rfl) ?_
          refine sf_if (fun c36 => ?_) (fun c36 => ?_)
          · have f37 : iv 0 2147483647 (h 17 ((h 15 (a0.toNatClampNeg)).toNatClampNeg)) := iv_ler (iv_any (h 17 ((h 15 (a0.toNatClampNeg)).toNatClampNeg))) (iv_lit (lo := 0) (hi := 0) (x := 0) rfl) c36 rfl
            exact ⟨trivial, (iv_w (c := 0) (d := 1) (iv_lit (lo := 0) (hi := 0) (x := 0) rfl) rfl), fun z => absurd rfl z⟩
          · have f38 : iv (-2147483648) (-1) (h 17 ((h 15 (a0.toNatClampNeg)).toNatClampNeg)) := iv_ltl (iv_any (h 17 ((h 15 (a0.toNatClampNeg)).toNatClampNeg))) (iv_lit (lo := 0) (hi := 0) (x := 0) rfl) (nle c36) rfl
            exact ⟨trivial, (iv_w (c := 0) (d := 1) (iv_lit (lo := 1) (hi := 1) (x := 1) rfl) rfl), fun _ => f8⟩
      · have f39 : iv 0 11 (h 14 (a0.toNatClampNeg)) := iv_ler f9 (iv_lit (lo := 0) (hi := 0) (x := 0) rfl) (nlt c10) rfl
        exact ⟨trivial, (iv_w (c := 0) (d := 1) (iv_lit (lo := 0) (hi := 0) (x := 0) rfl) rfl), fun z => absurd rfl z⟩

-- X12_state
set_option maxRecDepth 100000 in
set_option maxHeartbeats 4000000 in
theorem SX12_state {z : zT} (a0 : Int32) (h : ph_H) (I : IM z h) (f_a0 : iv 0 3 a0) : PX12_state a0 h ∧ iv 0 4 (FX12_state a0 h) := by
  unfold PX12_state FX12_state
  refine sf_n (iv_in f_a0 rfl) ?_
  have f1 : iv 0 1 (h 13 (a0.toNatClampNeg)) := IMv I 13 _
  refine sf_if (fun c2 => ?_) (fun c2 => ?_)
  · have f3 : iv 0 0 (h 13 (a0.toNatClampNeg)) := iv_eql f1 (iv_lit (lo := 0) (hi := 0) (x := 0) rfl) c2 rfl
    exact ⟨trivial, (iv_w (c := 0) (d := 4) (iv_lit (lo := 0) (hi := 0) (x := 0) rfl) rfl)⟩
  · have f4 : iv 1 1 (h 13 (a0.toNatClampNeg)) := iv_nel f1 c2 rfl
    refine sf_n (iv_in f_a0 rfl) ?_
    have f5 : iv 0 24 (h 12 (a0.toNatClampNeg)) := IMv I 12 _
    refine sf_if (fun c6 => ?_) (fun c6 => ?_)
    · have f7 : iv 24 24 (h 12 (a0.toNatClampNeg)) := iv_eql f5 (iv_lit (lo := 24) (hi := 24) (x := 24) rfl) c6 rfl
      exact ⟨trivial, (iv_w (c := 0) (d := 4) (iv_lit (lo := 4) (hi := 4) (x := 4) rfl) rfl)⟩
    · have f8 : iv 0 23 (h 12 (a0.toNatClampNeg)) := iv_nel f5 c6 rfl
      refine sf_n (iv_in f_a0 rfl) ?_
      have f9 : iv (-1) 11 (h 14 (a0.toNatClampNeg)) := IMv I 14 _
      refine sf_if (fun c10 => ?_) (fun c10 => ?_)
      · have f11 : iv (-1) (-1) (h 14 (a0.toNatClampNeg)) := iv_ltl f9 (iv_lit (lo := 0) (hi := 0) (x := 0) rfl) c10 rfl
        have s12 := SX12_canGo (z := z) a0 h I f_a0
        refine sf_n s12.1 ?_
        refine sf_if (fun c13 => ?_) (fun c13 => ?_)
        · have f14 : iv 0 0 (FX12_canGo a0 h) := iv_eql s12.2.1 (iv_lit (lo := 0) (hi := 0) (x := 0) rfl) c13 rfl
          exact ⟨trivial, (iv_w (c := 0) (d := 4) (iv_lit (lo := 2) (hi := 2) (x := 2) rfl) rfl)⟩
        · have f15 : iv 1 1 (FX12_canGo a0 h) := iv_nel s12.2.1 c13 rfl
          exact ⟨trivial, (iv_w (c := 0) (d := 4) (iv_lit (lo := 1) (hi := 1) (x := 1) rfl) rfl)⟩
      · have f16 : iv 0 11 (h 14 (a0.toNatClampNeg)) := iv_ler f9 (iv_lit (lo := 0) (hi := 0) (x := 0) rfl) (nlt c10) rfl
        exact ⟨trivial, (iv_w (c := 0) (d := 4) (iv_lit (lo := 3) (hi := 3) (x := 3) rfl) rfl)⟩

-- X12_goTo
set_option maxRecDepth 100000 in
set_option maxHeartbeats 4000000 in
theorem SX12_goTo {z : zT} (a0 : Int32) (a1 : Int32) (h : ph_H) (I : IM z h) (f_a0 : iv 0 3 a0) : PX12_goTo a0 a1 h ∧ IM z (FX12_goTo a0 a1 h) := by
  unfold PX12_goTo FX12_goTo
  refine sf_if (fun c1 => ?_) (fun c1 => ?_)
  · have f2 : iv (-2147483648) (-1) a1 := iv_ltl (iv_any a1) (iv_lit (lo := 0) (hi := 0) (x := 0) rfl) c1 rfl
    unfold PX12_goTo_19 FX12_goTo_19
    refine sf_n (iv_in f_a0 rfl) ?_
    have I3 : IM z (hs h 12 a0.toNatClampNeg 24) := IMs I (k := 12) (i := a0.toNatClampNeg) (v := 24) (iv_w (c := 0) (d := 24) (iv_lit (lo := 24) (hi := 24) (x := 24) rfl) rfl) rfl
    exact ⟨trivial, I3⟩
  · have f4 : iv 0 2147483647 a1 := iv_ler (iv_any a1) (iv_lit (lo := 0) (hi := 0) (x := 0) rfl) (nlt c1) rfl
    refine sf_n (iv_in f_a0 rfl) ?_
    have f5 : iv 0 24 (h 1 (a0.toNatClampNeg)) := IMv I 1 _
    refine sf_if (fun c6 => ?_) (fun c6 => ?_)
    · have f7 : iv 0 23 a1 := iv_ltl f4 f5 c6 rfl
      have f8 : iv 1 24 (h 1 (a0.toNatClampNeg)) := iv_ltr f5 f4 c6 rfl
      refine sf_n (iv_in f_a0 rfl) ?_
      have I9 : IM z (hs h 12 a0.toNatClampNeg a1) := IMs I (k := 12) (i := a0.toNatClampNeg) (v := a1) (iv_w (c := 0) (d := 24) f7 rfl) rfl
      exact ⟨trivial, I9⟩
    · unfold PX12_goTo_19 FX12_goTo_19
      refine sf_n (iv_in f_a0 rfl) ?_
      have I10 : IM z (hs h 12 a0.toNatClampNeg 24) := IMs I (k := 12) (i := a0.toNatClampNeg) (v := 24) (iv_w (c := 0) (d := 24) (iv_lit (lo := 24) (hi := 24) (x := 24) rfl) rfl) rfl
      exact ⟨trivial, I10⟩

-- X12_newThing
set_option maxRecDepth 100000 in
set_option maxHeartbeats 4000000 in
theorem SX12_newThing_29 {z : zT} : ∀ (q : Nat) (x3 : Int32) (x4 : Int32) (h : ph_H), IM z h → iv 0 11 x3 → iv 0 16 x4 → iv 0 11 (h 0 18) → 16 - (x4).toInt < ((q : Nat) : Int) → PX12_newThing_29  q x3 x4 h ∧ Qi z 0 11 (FX12_newThing_29  q x3 x4 h) := by
  intro q
  induction q with
  | zero =>
    intro x3 x4 h I f_x3 f_x4 g_0_18 mq
    exact mu_zu f_x4 mq rfl
  | succ q ih =>
    intro x3 x4 h I f_x3 f_x4 g_0_18 mq
    unfold PX12_newThing_29 FX12_newThing_29
    refine sf_if (fun c1 => ?_) (fun c1 => ?_)
    · have f2 : iv 16 16 x4 := iv_ler f_x4 (iv_lit (lo := 16) (hi := 16) (x := 16) rfl) c1 rfl
      have f3 : iv 1 12 ((h 0 18) + 1) := iv_add g_0_18 (iv_lit (lo := 1) (hi := 1) (x := 1) rfl) rfl
      have I4 : IM z (hs h 0 18 ((h 0 18) + 1)) := IMs I (k := 0) (i := 18) (v := ((h 0 18) + 1)) (iv_w (c := 0) (d := 12) f3 rfl) rfl
      exact ⟨trivial, Qi_mk f_x3 I4⟩
    · have f5 : iv 0 15 x4 := iv_ltl f_x4 (iv_lit (lo := 16) (hi := 16) (x := 16) rfl) (nle c1) rfl
      have f6 : iv 0 176 (16 * x3) := iv_mul (c := 16) rfl f_x3 rfl
      have f7 : iv 0 191 ((16 * x3) + x4) := iv_add f6 f5 rfl
      refine sf_n (iv_in f7 rfl) ?_
      have I8 : IM z (hs h 19 ((16 * x3) + x4).toNatClampNeg 0) := IMs I (k := 19) (i := ((16 * x3) + x4).toNatClampNeg) (v := 0) (iv_any 0) rfl
      have f9 : iv 1 16 (x4 + 1) := iv_add f5 (iv_lit (lo := 1) (hi := 1) (x := 1) rfl) rfl
      exact ih x3 (x4 + 1) (hs h 19 ((16 * x3) + x4).toNatClampNeg 0) I8 f_x3 (iv_w (c := 0) (d := 16) f9 rfl) (iv_r (hz_k (by decide)) g_0_18) (mu_up f5 mq rfl)
set_option maxRecDepth 100000 in
set_option maxHeartbeats 4000000 in
theorem SX12_newThing {z : zT} (a0 : Int32) (a1 : Int32) (h : ph_H) (I : IM z h) (f_a1 : iv 0 16 a1) (g_0_18 : iv 0 11 (h 0 18)) : PX12_newThing a0 a1 h ∧ Qi z 0 11 (FX12_newThing a0 a1 h) := by
  unfold PX12_newThing FX12_newThing
  refine sf_n (iv_in g_0_18 rfl) ?_
  have I1 : IM z (hs h 16 (h 0 18).toNatClampNeg a0) := IMs I (k := 16) (i := (h 0 18).toNatClampNeg) (v := a0) (iv_any a0) rfl
  refine sf_n (iv_in g_0_18 rfl) ?_
  have I2 : IM z (hs (hs h 16 (h 0 18).toNatClampNeg a0) 17 (h 0 18).toNatClampNeg (-1)) := IMs I1 (k := 17) (i := (h 0 18).toNatClampNeg) (v := (-1)) (iv_any (-1)) rfl
  refine sf_n (iv_in g_0_18 rfl) ?_
  have I3 : IM z (hs (hs (hs h 16 (h 0 18).toNatClampNeg a0) 17 (h 0 18).toNatClampNeg (-1)) 18 (h 0 18).toNatClampNeg a1) := IMs I2 (k := 18) (i := (h 0 18).toNatClampNeg) (v := a1) f_a1 rfl
  exact SX12_newThing_29 2000 (h 0 18) 0 (hs (hs (hs h 16 (h 0 18).toNatClampNeg a0) 17 (h 0 18).toNatClampNeg (-1)) 18 (h 0 18).toNatClampNeg a1) I3 g_0_18 (iv_w (c := 0) (d := 16) (iv_lit (lo := 0) (hi := 0) (x := 0) rfl) rfl) (iv_r ((hz_k (by decide)).trans ((hz_k (by decide)).trans (hz_k (by decide)))) g_0_18) (mu_0u (iv_lit (lo := 0) (hi := 0) (x := 0) rfl) rfl)

-- X12_why
set_option maxRecDepth 100000 in
set_option maxHeartbeats 4000000 in
theorem SX12_why {z : zT} (a0 : Int32) (a1 : Int32) (a2 : Int32) (a3 : Int32) (a4 : Int32) (a5 : Int32) (h : ph_H) (I : IM z h) (f_a0 : iv 0 3 a0) (f_a2 : iv 0 27 a2) (f_a3 : iv 0 27 a3) (f_a4 : iv 0 27 a4) : PX12_why a0 a1 a2 a3 a4 a5 h ∧ Qw a1 a2 a3 a4 h (FX12_why a0 a1 a2 a3 a4 a5 h) := by
  unfold PX12_why FX12_why
  refine sf_if (fun c1 => ?_) (fun c1 => ?_)
  · have f2 : iv 3 3 a1 := iv_eql (iv_any a1) (iv_lit (lo := 3) (hi := 3) (x := 3) rfl) c1 rfl
    refine sf_n (iv_in f_a2 rfl) ?_
    have f3 : iv 0 3 (h 10 (a2.toNatClampNeg)) := IMv I 10 _
    refine sf_if (fun c4 => ?_) (fun c4 => ?_)
    · have f5 : iv 0 0 (h 10 (a2.toNatClampNeg)) := iv_eql f3 (iv_lit (lo := 0) (hi := 0) (x := 0) rfl) c4 rfl
      refine sf_n (iv_in f_a3 rfl) ?_
      have f6 : iv 0 3 (h 10 (a3.toNatClampNeg)) := IMv I 10 _
      refine sf_if (fun c7 => ?_) (fun c7 => ?_)
      · have f8 : iv 0 0 (h 10 (a3.toNatClampNeg)) := iv_eql f6 (iv_lit (lo := 0) (hi := 0) (x := 0) rfl) c7 rfl
        exact ⟨trivial, (iv_w (c := 0) (d := 19) (iv_lit (lo := 0) (hi := 0) (x := 0) rfl) rfl), fun _ => ⟨fun e => absurd (c1.symm.trans e) (by decide), fun e => absurd (c1.symm.trans e) (by decide), fun e => absurd (c1.symm.trans e) (by decide), fun e => absurd (c1.symm.trans e) (by decide), fun e => absurd (c1.symm.trans e) (by decide), fun e => absurd (c1.symm.trans e) (by decide), fun e => absurd (c1.symm.trans e) (by decide), fun e => absurd (c1.symm.trans e) (by decide), fun e => absurd (c1.symm.trans e) (by decide)⟩⟩
      · have f9 : iv 1 3 (h 10 (a3.toNatClampNeg)) := iv_nel f6 c7 rfl
        have f10 : iv 0 11 (h 11 (a3.toNatClampNeg)) := KVn I f9 rfl
        unfold PX12_why_99 FX12_why_99
        exact ⟨trivial, (iv_w (c := 0) (d := 19) (iv_lit (lo := 1) (hi := 1) (x := 1) rfl) rfl), fun z => absurd z (iv_ne0 (iv_lit (lo := 1) (hi := 1) (x := 1) rfl) rfl)⟩
    · have f11 : iv 1 3 (h 10 (a2.toNatClampNeg)) := iv_nel f3 c4 rfl
      have f12 : iv 0 11 (h 11 (a2.toNatClampNeg)) := KVn I f11 rfl
      unfold PX12_why_99 FX12_why_99
      exact ⟨trivial, (iv_w (c := 0) (d := 19) (iv_lit (lo := 1) (hi := 1) (x := 1) rfl) rfl), fun z => absurd z (iv_ne0 (iv_lit (lo := 1) (hi := 1) (x := 1) rfl) rfl)⟩
  refine sf_if (fun c13 => ?_) (fun c13 => ?_)
  · have f14 : iv 4 4 a1 := iv_eql (iv_any a1) (iv_lit (lo := 4) (hi := 4) (x := 4) rfl) c13 rfl
    refine sf_n (iv_in f_a2 rfl) ?_
    have f15 : iv 0 3 (h 10 (a2.toNatClampNeg)) := IMv I 10 _
    refine sf_if (fun c16 => ?_) (fun c16 => ?_)
    · have f17 : iv 0 0 (h 10 (a2.toNatClampNeg)) := iv_eql f15 (iv_lit (lo := 0) (hi := 0) (x := 0) rfl) c16 rfl
      refine sf_n (iv_in f_a3 rfl) ?_
      have f18 : iv 0 3 (h 10 (a3.toNatClampNeg)) := IMv I 10 _
      refine sf_if (fun c19 => ?_) (fun c19 => ?_)
      · have f20 : iv 0 0 (h 10 (a3.toNatClampNeg)) := iv_eql f18 (iv_lit (lo := 0) (hi := 0) (x := 0) rfl) c19 rfl
        exact ⟨trivial, (iv_w (c := 0) (d := 19) (iv_lit (lo := 0) (hi := 0) (x := 0) rfl) rfl), fun _ => ⟨fun e => absurd (c13.symm.trans e) (by decide), fun e => absurd (c13.symm.trans e) (by decide), fun e => absurd (c13.symm.trans e) (by decide), fun e => absurd (c13.symm.trans e) (by decide), fun e => absurd (c13.symm.trans e) (by decide), fun e => absurd (c13.symm.trans e) (by decide), fun e => absurd (c13.symm.trans e) (by decide), fun e => absurd (c13.symm.trans e) (by decide), fun e => absurd (c13.symm.trans e) (by decide)⟩⟩
      · have f21 : iv 1 3 (h 10 (a3.toNatClampNeg)) := iv_nel f18 c19 rfl
        have f22 : iv 0 11 (h 11 (a3.toNatClampNeg)) := KVn I f21 rfl
        unfold PX12_why_99 FX12_why_99
        exact ⟨trivial, (iv_w (c := 0) (d := 19) (iv_lit (lo := 1) (hi := 1) (x := 1) rfl) rfl), fun z => absurd z (iv_ne0 (iv_lit (lo := 1) (hi := 1) (x := 1) rfl) rfl)⟩
    · have f23 : iv 1 3 (h 10 (a2.toNatClampNeg)) := iv_nel f15 c16 rfl
      have f24 : iv 0 11 (h 11 (a2.toNatClampNeg)) := KVn I f23 rfl
      unfold PX12_why_99 FX12_why_99
      exact ⟨trivial, (iv_w (c := 0) (d := 19) (iv_lit (lo := 1) (hi := 1) (x := 1) rfl) rfl), fun z => absurd z (iv_ne0 (iv_lit (lo := 1) (hi := 1) (x := 1) rfl) rfl)⟩
  refine sf_if (fun c25 => ?_) (fun c25 => ?_)
  · have f26 : iv 5 5 a1 := iv_eql (iv_any a1) (iv_lit (lo := 5) (hi := 5) (x := 5) rfl) c25 rfl
    refine sf_n (iv_in f_a2 rfl) ?_
    have f27 : iv 0 3 (h 10 (a2.toNatClampNeg)) := IMv I 10 _
    refine sf_if (fun c28 => ?_) (fun c28 => ?_)
    · have f29 : iv 0 0 (h 10 (a2.toNatClampNeg)) := iv_eql f27 (iv_lit (lo := 0) (hi := 0) (x := 0) rfl) c28 rfl
      refine sf_n (iv_in f_a3 rfl) ?_
      have f30 : iv 0 3 (h 10 (a3.toNatClampNeg)) := IMv I 10 _
      refine sf_if (fun c31 => ?_) (fun c31 => ?_)
      · have f32 : iv 0 0 (h 10 (a3.toNatClampNeg)) := iv_eql f30 (iv_lit (lo := 0) (hi := 0) (x := 0) rfl) c31 rfl
        exact ⟨trivial, (iv_w (c := 0) (d := 19) (iv_lit (lo := 0) (hi := 0) (x := 0) rfl) rfl), fun _ => ⟨fun e => absurd (c25.symm.trans e) (by decide), fun e => absurd (c25.symm.trans e) (by decide), fun e => absurd (c25.symm.trans e) (by decide), fun e => absurd (c25.symm.trans e) (by decide), fun e => absurd (c25.symm.trans e) (by decide), fun e => absurd (c25.symm.trans e) (by decide), fun e => absurd (c25.symm.trans e) (by decide), fun e => absurd (c25.symm.trans e) (by decide), fun e => absurd (c25.symm.trans e) (by decide)⟩⟩
      · have f33 : iv 1 3 (h 10 (a3.toNatClampNeg)) := iv_nel f30 c31 rfl
        have f34 : iv 0 11 (h 11 (a3.toNatClampNeg)) := KVn I f33 rfl
        unfold PX12_why_99 FX12_why_99
        exact ⟨trivial, (iv_w (c := 0) (d := 19) (iv_lit (lo := 1) (hi := 1) (x := 1) rfl) rfl), fun z => absurd z (iv_ne0 (iv_lit (lo := 1) (hi := 1) (x := 1) rfl) rfl)⟩
    · have f35 : iv 1 3 (h 10 (a2.toNatClampNeg)) := iv_nel f27 c28 rfl
      have f36 : iv 0 11 (h 11 (a2.toNatClampNeg)) := KVn I f35 rfl
      unfold PX12_why_99 FX12_why_99
      exact ⟨trivial, (iv_w (c := 0) (d := 19) (iv_lit (lo := 1) (hi := 1) (x := 1) rfl) rfl), fun z => absurd z (iv_ne0 (iv_lit (lo := 1) (hi := 1) (x := 1) rfl) rfl)⟩
  refine sf_if (fun c37 => ?_) (fun c37 => ?_)
  · have f38 : iv 6 6 a1 := iv_eql (iv_any a1) (iv_lit (lo := 6) (hi := 6) (x := 6) rfl) c37 rfl
    exact ⟨trivial, (iv_w (c := 0) (d := 19) (iv_lit (lo := 0) (hi := 0) (x := 0) rfl) rfl), fun _ => ⟨fun e => absurd (c37.symm.trans e) (by decide), fun e => absurd (c37.symm.trans e) (by decide), fun e => absurd (c37.symm.trans e) (by decide), fun e => absurd (c37.symm.trans e) (by decide), fun e => absurd (c37.symm.trans e) (by decide), fun e => absurd (c37.symm.trans e) (by decide), fun e => absurd (c37.symm.trans e) (by decide), fun e => absurd (c37.symm.trans e) (by decide), fun e => absurd (c37.symm.trans e) (by decide)⟩⟩
  refine sf_if (fun c39 => ?_) (fun c39 => ?_)
  · have f40 : iv 7 7 a1 := iv_eql (iv_any a1) (iv_lit (lo := 7) (hi := 7) (x := 7) rfl) c39 rfl
    refine sf_n (iv_in f_a2 rfl) ?_
    have f41 : iv 0 3 (h 10 (a2.toNatClampNeg)) := IMv I 10 _
    refine sf_if (fun c42 => ?_) (fun c42 => ?_)
    · have f43 : iv 0 0 (h 10 (a2.toNatClampNeg)) := iv_eql f41 (iv_lit (lo := 0) (hi := 0) (x := 0) rfl) c42 rfl
      exact ⟨trivial, (iv_w (c := 0) (d := 19) (iv_lit (lo := 0) (hi := 0) (x := 0) rfl) rfl), fun _ => ⟨fun e => absurd (c39.symm.trans e) (by decide), fun e => absurd (c39.symm.trans e) (by decide), fun e => absurd (c39.symm.trans e) (by decide), fun e => absurd (c39.symm.trans e) (by decide), fun e => absurd (c39.symm.trans e) (by decide), fun e => absurd (c39.symm.trans e) (by decide), fun e => absurd (c39.symm.trans e) (by decide), fun e => absurd (c39.symm.trans e) (by decide), fun e => absurd (c39.symm.trans e) (by decide)⟩⟩
    · have f44 : iv 1 3 (h 10 (a2.toNatClampNeg)) := iv_nel f41 c42 rfl
      have f45 : iv 0 11 (h 11 (a2.toNatClampNeg)) := KVn I f44 rfl
      exact ⟨trivial, (iv_w (c := 0) (d := 19) (iv_lit (lo := 1) (hi := 1) (x := 1) rfl) rfl), fun z => absurd z (iv_ne0 (iv_lit (lo := 1) (hi := 1) (x := 1) rfl) rfl)⟩
  refine sf_if (fun c46 => ?_) (fun c46 => ?_)
  · have f47 : iv 8 8 a1 := iv_eql (iv_any a1) (iv_lit (lo := 8) (hi := 8) (x := 8) rfl) c46 rfl
    refine sf_n (iv_in f_a3 rfl) ?_
    have f48 : iv 0 3 (h 10 (a3.toNatClampNeg)) := IMv I 10 _
    refine sf_if (fun c49 => ?_) (fun c49 => ?_)
    · have f50 : iv 0 0 (h 10 (a3.toNatClampNeg)) := iv_eql f48 (iv_lit (lo := 0) (hi := 0) (x := 0) rfl) c49 rfl
      refine sf_n (iv_in f_a3 rfl) ?_
      refine sf_if (fun c51 => ?_) (fun c51 => ?_)
      · have f52 : iv 0 2147483647 (h 11 (a3.toNatClampNeg)) := iv_ler (iv_any (h 11 (a3.toNatClampNeg))) (iv_lit (lo := 0) (hi := 0) (x := 0) rfl) c51 rfl
        refine sf_n (iv_in f_a3 rfl) ?_
        refine sf_if (fun c53 => ?_) (fun c53 => ?_)
        · have f54 : iv 17 2147483647 (h 11 (a3.toNatClampNeg)) := iv_ltr f52 (iv_lit (lo := 16) (hi := 16) (x := 16) rfl) c53 rfl
          unfold PX12_why_169 FX12_why_169
          exact ⟨trivial, (iv_w (c := 0) (d := 19) (iv_lit (lo := 3) (hi := 3) (x := 3) rfl) rfl), fun z => absurd z (iv_ne0 (iv_lit (lo := 3) (hi := 3) (x := 3) rfl) rfl)⟩
        · have f55 : iv 0 16 (h 11 (a3.toNatClampNeg)) := iv_lel f52 (iv_lit (lo := 16) (hi := 16) (x := 16) rfl) (nlt c53) rfl
          have f56 : iv 0 12 (h 0 18) := IMv I 0 _
          refine sf_if (fun c57 => ?_) (fun c57 => ?_)
          · have f58 : iv 12 12 (h 0 18) := iv_eql f56 (iv_lit (lo := 12) (hi := 12) (x := 12) rfl) c57 rfl
            unfold PX12_why_169 FX12_why_169
            exact ⟨trivial, (iv_w (c := 0) (d := 19) (iv_lit (lo := 3) (hi := 3) (x := 3) rfl) rfl), fun z => absurd z (iv_ne0 (iv_lit (lo := 3) (hi := 3) (x := 3) rfl) rfl)⟩
          · have f59 : iv 0 11 (h 0 18) := iv_nel f56 c57 rfl
            exact ⟨trivial, (iv_w (c := 0) (d := 19) (iv_lit (lo := 0) (hi := 0) (x := 0) rfl) rfl), fun _ => ⟨fun _ => ⟨f55, f59⟩, fun e => absurd (c46.symm.trans e) (by decide), fun e => absurd (c46.symm.trans e) (by decide), fun e => absurd (c46.symm.trans e) (by decide), fun e => absurd (c46.symm.trans e) (by decide), fun e => absurd (c46.symm.trans e) (by decide), fun e => absurd (c46.symm.trans e) (by decide), fun e => absurd (c46.symm.trans e) (by decide), fun e => absurd (c46.symm.trans e) (by decide)⟩⟩
      · have f60 : iv (-2147483648) (-1) (h 11 (a3.toNatClampNeg)) := iv_ltl (iv_any (h 11 (a3.toNatClampNeg))) (iv_lit (lo := 0) (hi := 0) (x := 0) rfl) (nle c51) rfl
        exact ⟨trivial, (iv_w (c := 0) (d := 19) (iv_lit (lo := 2) (hi := 2) (x := 2) rfl) rfl), fun z => absurd z (iv_ne0 (iv_lit (lo := 2) (hi := 2) (x := 2) rfl) rfl)⟩
    · have f61 : iv 1 3 (h 10 (a3.toNatClampNeg)) := iv_nel f48 c49 rfl
      have f62 : iv 0 11 (h 11 (a3.toNatClampNeg)) := KVn I f61 rfl
      exact ⟨trivial, (iv_w (c := 0) (d := 19) (iv_lit (lo := 1) (hi := 1) (x := 1) rfl) rfl), fun z => absurd z (iv_ne0 (iv_lit (lo := 1) (hi := 1) (x := 1) rfl) rfl)⟩
  refine sf_if (fun c63 => ?_) (fun c63 => ?_)
  · have f64 : iv 9 9 a1 := iv_eql (iv_any a1) (iv_lit (lo := 9) (hi := 9) (x := 9) rfl) c63 rfl
    refine sf_n (iv_in f_a3 rfl) ?_
    have f65 : iv 0 3 (h 10 (a3.toNatClampNeg)) := IMv I 10 _
    refine sf_if (fun c66 => ?_) (fun c66 => ?_)
    · have f67 : iv 1 1 (h 10 (a3.toNatClampNeg)) := iv_eql f65 (iv_lit (lo := 1) (hi := 1) (x := 1) rfl) c66 rfl
      have f68 : iv 0 11 (h 11 (a3.toNatClampNeg)) := KVn I f67 rfl
      refine sf_n (iv_in f_a4 rfl) ?_
      have f69 : iv 0 3 (h 10 (a4.toNatClampNeg)) := IMv I 10 _
      refine sf_if (fun c70 => ?_) (fun c70 => ?_)
      · have f71 : iv 0 0 (h 10 (a4.toNatClampNeg)) := iv_eql f69 (iv_lit (lo := 0) (hi := 0) (x := 0) rfl) c70 rfl
        refine sf_n (iv_in f_a4 rfl) ?_
        refine sf_n (iv_in f_a3 rfl) ?_
        refine sf_n (iv_in f68 rfl) ?_
        have f72 : iv 0 16 (h 18 ((h 11 (a3.toNatClampNeg)).toNatClampNeg)) := IMv I 18 _
        have f73 : iv (-1) 15 ((h 18 ((h 11 (a3.toNatClampNeg)).toNatClampNeg)) - 1) := iv_sub f72 (iv_lit (lo := 1) (hi := 1) (x := 1) rfl) rfl
        refine sf_n isIn_p ?_
        refine sf_if (fun c74 => ?_) (fun c74 => ?_)
        · have f75 : iv 0 0 (FX12_isIn ((h 11 (a4.toNatClampNeg)).toInt64) 0 (((h 18 ((h 11 (a3.toNatClampNeg)).toNatClampNeg)) - 1).toInt64)) := iv_eql (isIn_b (x := (h 11 (a4.toNatClampNeg)).toInt64) (l := 0) (u := ((h 18 ((h 11 (a3.toNatClampNeg)).toNatClampNeg)) - 1).toInt64)) (iv_lit (lo := 0) (hi := 0) (x := 0) rfl) c74 rfl
          exact ⟨trivial, (iv_w (c := 0) (d := 19) (iv_lit (lo := 4) (hi := 4) (x := 4) rfl) rfl), fun z => absurd z (iv_ne0 (iv_lit (lo := 4) (hi := 4) (x := 4) rfl) rfl)⟩
        · have f76 : iv 0 15 (h 11 (a4.toNatClampNeg)) := isIn_iv (iv_any (h 11 (a4.toNatClampNeg))) (lw_lit (lo := 0) (hi := 0) (x := 0) rfl) (lw_of f73) c74 rfl
          have f77 : iv 1 1 (FX12_isIn ((h 11 (a4.toNatClampNeg)).toInt64) 0 (((h 18 ((h 11 (a3.toNatClampNeg)).toNatClampNeg)) - 1).toInt64)) := iv_nel (isIn_b (x := (h 11 (a4.toNatClampNeg)).toInt64) (l := 0) (u := ((h 18 ((h 11 (a3.toNatClampNeg)).toNatClampNeg)) - 1).toInt64)) c74 rfl
          exact ⟨trivial, (iv_w (c := 0) (d := 19) (iv_lit (lo := 0) (hi := 0) (x := 0) rfl) rfl), fun _ => ⟨fun e => absurd (c63.symm.trans e) (by decide), fun _ => ⟨f68, f76⟩, fun e => absurd (c63.symm.trans e) (by decide), fun e => absurd (c63.symm.trans e) (by decide), fun e => absurd (c63.symm.trans e) (by decide), fun e => absurd (c63.symm.trans e) (by decide), fun e => absurd (c63.symm.trans e) (by decide), fun e => absurd (c63.symm.trans e) (by decide), fun e => absurd (c63.symm.trans e) (by decide)⟩⟩
      · have f78 : iv 1 3 (h 10 (a4.toNatClampNeg)) := iv_nel f69 c70 rfl
        have f79 : iv 0 11 (h 11 (a4.toNatClampNeg)) := KVn I f78 rfl
        unfold PX12_why_196 FX12_why_196
        exact ⟨trivial, (iv_w (c := 0) (d := 19) (iv_lit (lo := 1) (hi := 1) (x := 1) rfl) rfl), fun z => absurd z (iv_ne0 (iv_lit (lo := 1) (hi := 1) (x := 1) rfl) rfl)⟩
    · unfold PX12_why_196 FX12_why_196
      exact ⟨trivial, (iv_w (c := 0) (d := 19) (iv_lit (lo := 1) (hi := 1) (x := 1) rfl) rfl), fun z => absurd z (iv_ne0 (iv_lit (lo := 1) (hi := 1) (x := 1) rfl) rfl)⟩
  refine sf_if (fun c80 => ?_) (fun c80 => ?_)
  · have f81 : iv 10 10 a1 := iv_eql (iv_any a1) (iv_lit (lo := 10) (hi := 10) (x := 10) rfl) c80 rfl
    refine sf_n (iv_in f_a2 rfl) ?_
    have f82 : iv 0 3 (h 10 (a2.toNatClampNeg)) := IMv I 10 _
    refine sf_if (fun c83 => ?_) (fun c83 => ?_)
    · have f84 : iv 1 1 (h 10 (a2.toNatClampNeg)) := iv_eql f82 (iv_lit (lo := 1) (hi := 1) (x := 1) rfl) c83 rfl
      have f85 : iv 0 11 (h 11 (a2.toNatClampNeg)) := KVn I f84 rfl
      refine sf_n (iv_in f_a3 rfl) ?_
      have f86 : iv 0 3 (h 10 (a3.toNatClampNeg)) := IMv I 10 _
      refine sf_if (fun c87 => ?_) (fun c87 => ?_)
      · have f88 : iv 0 0 (h 10 (a3.toNatClampNeg)) := iv_eql f86 (iv_lit (lo := 0) (hi := 0) (x := 0) rfl) c87 rfl
        refine sf_n (iv_in f_a4 rfl) ?_
        have f89 : iv 0 3 (h 10 (a4.toNatClampNeg)) := IMv I 10 _
        refine sf_if (fun c90 => ?_) (fun c90 => ?_)
        · have f91 : iv 0 0 (h 10 (a4.toNatClampNeg)) := iv_eql f89 (iv_lit (lo := 0) (hi := 0) (x := 0) rfl) c90 rfl
          refine sf_n (iv_in f_a3 rfl) ?_
          refine sf_n (iv_in f_a2 rfl) ?_
          refine sf_n (iv_in f85 rfl) ?_
          have f92 : iv 0 16 (h 18 ((h 11 (a2.toNatClampNeg)).toNatClampNeg)) := IMv I 18 _
          have f93 : iv (-1) 15 ((h 18 ((h 11 (a2.toNatClampNeg)).toNatClampNeg)) - 1) := iv_sub f92 (iv_lit (lo := 1) (hi := 1) (x := 1) rfl) rfl
          refine sf_n isIn_p ?_
          refine sf_if (fun c94 => ?_) (fun c94 => ?_)
          · have f95 : iv 0 0 (FX12_isIn ((h 11 (a3.toNatClampNeg)).toInt64) 0 (((h 18 ((h 11 (a2.toNatClampNeg)).toNatClampNeg)) - 1).toInt64)) := iv_eql (isIn_b (x := (h 11 (a3.toNatClampNeg)).toInt64) (l := 0) (u := ((h 18 ((h 11 (a2.toNatClampNeg)).toNatClampNeg)) - 1).toInt64)) (iv_lit (lo := 0) (hi := 0) (x := 0) rfl) c94 rfl
            exact ⟨trivial, (iv_w (c := 0) (d := 19) (iv_lit (lo := 4) (hi := 4) (x := 4) rfl) rfl), fun z => absurd z (iv_ne0 (iv_lit (lo := 4) (hi := 4) (x := 4) rfl) rfl)⟩
          · have f96 : iv 0 15 (h 11 (a3.toNatClampNeg)) := isIn_iv (iv_any (h 11 (a3.toNatClampNeg))) (lw_lit (lo := 0) (hi := 0) (x := 0) rfl) (lw_of f93) c94 rfl
            have f97 : iv 1 1 (FX12_isIn ((h 11 (a3.toNatClampNeg)).toInt64) 0 (((h 18 ((h 11 (a2.toNatClampNeg)).toNatClampNeg)) - 1).toInt64)) := iv_nel (isIn_b (x := (h 11 (a3.toNatClampNeg)).toInt64) (l := 0) (u := ((h 18 ((h 11 (a2.toNatClampNeg)).toNatClampNeg)) - 1).toInt64)) c94 rfl
            exact ⟨trivial, (iv_w (c := 0) (d := 19) (iv_lit (lo := 0) (hi := 0) (x := 0) rfl) rfl), fun _ => ⟨fun e => absurd (c80.symm.trans e) (by decide), fun e => absurd (c80.symm.trans e) (by decide), fun _ => ⟨f85, f96⟩, fun e => absurd (c80.symm.trans e) (by decide), fun e => absurd (c80.symm.trans e) (by decide), fun e => absurd (c80.symm.trans e) (by decide), fun e => absurd (c80.symm.trans e) (by decide), fun e => absurd (c80.symm.trans e) (by decide), fun e => absurd (c80.symm.trans e) (by decide)⟩⟩
        · have f98 : iv 1 3 (h 10 (a4.toNatClampNeg)) := iv_nel f89 c90 rfl
          have f99 : iv 0 11 (h 11 (a4.toNatClampNeg)) := KVn I f98 rfl
          unfold PX12_why_266 FX12_why_266
          exact ⟨trivial, (iv_w (c := 0) (d := 19) (iv_lit (lo := 1) (hi := 1) (x := 1) rfl) rfl), fun z => absurd z (iv_ne0 (iv_lit (lo := 1) (hi := 1) (x := 1) rfl) rfl)⟩
      · have f100 : iv 1 3 (h 10 (a3.toNatClampNeg)) := iv_nel f86 c87 rfl
        have f101 : iv 0 11 (h 11 (a3.toNatClampNeg)) := KVn I f100 rfl
        unfold PX12_why_266 FX12_why_266
        exact ⟨trivial, (iv_w (c := 0) (d := 19) (iv_lit (lo := 1) (hi := 1) (x := 1) rfl) rfl), fun z => absurd z (iv_ne0 (iv_lit (lo := 1) (hi := 1) (x := 1) rfl) rfl)⟩
    · unfold PX12_why_266 FX12_why_266
      exact ⟨trivial, (iv_w (c := 0) (d := 19) (iv_lit (lo := 1) (hi := 1) (x := 1) rfl) rfl), fun z => absurd z (iv_ne0 (iv_lit (lo := 1) (hi := 1) (x := 1) rfl) rfl)⟩
  refine sf_if (fun c102 => ?_) (fun c102 => ?_)
  · have f103 : iv 11 11 a1 := iv_eql (iv_any a1) (iv_lit (lo := 11) (hi := 11) (x := 11) rfl) c102 rfl
    have f104 : iv 0 12 (h 0 18) := IMv I 0 _
    refine sf_if (fun c105 => ?_) (fun c105 => ?_)
    · have f106 : iv 12 12 (h 0 18) := iv_eql f104 (iv_lit (lo := 12) (hi := 12) (x := 12) rfl) c105 rfl
      exact ⟨trivial, (iv_w (c := 0) (d := 19) (iv_lit (lo := 3) (hi := 3) (x := 3) rfl) rfl), fun z => absurd z (iv_ne0 (iv_lit (lo := 3) (hi := 3) (x := 3) rfl) rfl)⟩
    · have f107 : iv 0 11 (h 0 18) := iv_nel f104 c105 rfl
      exact ⟨trivial, (iv_w (c := 0) (d := 19) (iv_lit (lo := 0) (hi := 0) (x := 0) rfl) rfl), fun _ => ⟨fun e => absurd (c102.symm.trans e) (by decide), fun e => absurd (c102.symm.trans e) (by decide), fun e => absurd (c102.symm.trans e) (by decide), fun _ => f107, fun e => absurd (c102.symm.trans e) (by decide), fun e => absurd (c102.symm.trans e) (by decide), fun e => absurd (c102.symm.trans e) (by decide), fun e => absurd (c102.symm.trans e) (by decide), fun e => absurd (c102.symm.trans e) (by decide)⟩⟩
  refine sf_if (fun c108 => ?_) (fun c108 => ?_)
  · have f109 : iv 12 12 a1 := iv_eql (iv_any a1) (iv_lit (lo := 12) (hi := 12) (x := 12) rfl) c108 rfl
    have s110 := SX12_isLock (z := z) a2 h I f_a2
    refine sf_n s110.1 ?_
    refine sf_if (fun c111 => ?_) (fun c111 => ?_)
    · have f112 : iv 0 0 (FX12_isLock a2 h) := iv_eql s110.2.1 (iv_lit (lo := 0) (hi := 0) (x := 0) rfl) c111 rfl
      exact ⟨trivial, (iv_w (c := 0) (d := 19) (iv_lit (lo := 1) (hi := 1) (x := 1) rfl) rfl), fun z => absurd z (iv_ne0 (iv_lit (lo := 1) (hi := 1) (x := 1) rfl) rfl)⟩
    · have f113 : iv 2 3 (h 10 (a2.toNatClampNeg)) := iv_and (iv_any _) (s110.2.2 c111) rfl
      have f114 : iv 0 11 (h 11 (a2.toNatClampNeg)) := KVn I f113 rfl
      have f115 : iv 1 1 (FX12_isLock a2 h) := iv_nel s110.2.1 c111 rfl
      refine sf_n (iv_in f_a2 rfl) ?_
      refine sf_n (iv_in f114 rfl) ?_
      refine sf_if (fun c116 => ?_) (fun c116 => ?_)
      · have f117 : iv 0 3 (h 17 ((h 11 (a2.toNatClampNeg)).toNatClampNeg)) := iv_eql (iv_any (h 17 ((h 11 (a2.toNatClampNeg)).toNatClampNeg))) f_a0 c116 rfl
        exact ⟨trivial, (iv_w (c := 0) (d := 19) (iv_lit (lo := 5) (hi := 5) (x := 5) rfl) rfl), fun z => absurd z (iv_ne0 (iv_lit (lo := 5) (hi := 5) (x := 5) rfl) rfl)⟩
      · exact ⟨trivial, (iv_w (c := 0) (d := 19) (iv_lit (lo := 0) (hi := 0) (x := 0) rfl) rfl), fun _ => ⟨fun e => absurd (c108.symm.trans e) (by decide), fun e => absurd (c108.symm.trans e) (by decide), fun e => absurd (c108.symm.trans e) (by decide), fun e => absurd (c108.symm.trans e) (by decide), fun _ => f114, fun e => absurd (c108.symm.trans e) (by decide), fun e => absurd (c108.symm.trans e) (by decide), fun e => absurd (c108.symm.trans e) (by decide), fun e => absurd (c108.symm.trans e) (by decide)⟩⟩
  refine sf_if (fun c118 => ?_) (fun c118 => ?_)
  · have f119 : iv 13 13 a1 := iv_eql (iv_any a1) (iv_lit (lo := 13) (hi := 13) (x := 13) rfl) c118 rfl
    have s120 := SX12_isLock (z := z) a2 h I f_a2
    refine sf_n s120.1 ?_
    refine sf_if (fun c121 => ?_) (fun c121 => ?_)
    · have f122 : iv 0 0 (FX12_isLock a2 h) := iv_eql s120.2.1 (iv_lit (lo := 0) (hi := 0) (x := 0) rfl) c121 rfl
      exact ⟨trivial, (iv_w (c := 0) (d := 19) (iv_lit (lo := 1) (hi := 1) (x := 1) rfl) rfl), fun z => absurd z (iv_ne0 (iv_lit (lo := 1) (hi := 1) (x := 1) rfl) rfl)⟩
    · have f123 : iv 2 3 (h 10 (a2.toNatClampNeg)) := iv_and (iv_any _) (s120.2.2 c121) rfl
      have f124 : iv 0 11 (h 11 (a2.toNatClampNeg)) := KVn I f123 rfl
      have f125 : iv 1 1 (FX12_isLock a2 h) := iv_nel s120.2.1 c121 rfl
      refine sf_n (iv_in f_a2 rfl) ?_
      refine sf_n (iv_in f124 rfl) ?_
      refine sf_if (fun c126 => ?_) (fun c126 => ?_)
      · have f127 : iv 0 3 (h 17 ((h 11 (a2.toNatClampNeg)).toNatClampNeg)) := iv_eql (iv_any (h 17 ((h 11 (a2.toNatClampNeg)).toNatClampNeg))) f_a0 c126 rfl
        exact ⟨trivial, (iv_w (c := 0) (d := 19) (iv_lit (lo := 0) (hi := 0) (x := 0) rfl) rfl), fun _ => ⟨fun e => absurd (c118.symm.trans e) (by decide), fun e => absurd (c118.symm.trans e) (by decide), fun e => absurd (c118.symm.trans e) (by decide), fun e => absurd (c118.symm.trans e) (by decide), fun e => absurd (c118.symm.trans e) (by decide), fun _ => f124, fun e => absurd (c118.symm.trans e) (by decide), fun e => absurd (c118.symm.trans e) (by decide), fun e => absurd (c118.symm.trans e) (by decide)⟩⟩
      · exact ⟨trivial, (iv_w (c := 0) (d := 19) (iv_lit (lo := 6) (hi := 6) (x := 6) rfl) rfl), fun z => absurd z (iv_ne0 (iv_lit (lo := 6) (hi := 6) (x := 6) rfl) rfl)⟩
  refine sf_if (fun c128 => ?_) (fun c128 => ?_)
  · have f129 : iv 14 14 a1 := iv_eql (iv_any a1) (iv_lit (lo := 14) (hi := 14) (x := 14) rfl) c128 rfl
    refine sf_n (iv_in f_a2 rfl) ?_
    have f130 : iv 0 3 (h 10 (a2.toNatClampNeg)) := IMv I 10 _
    refine sf_if (fun c131 => ?_) (fun c131 => ?_)
    · have f132 : iv 3 3 (h 10 (a2.toNatClampNeg)) := iv_eql f130 (iv_lit (lo := 3) (hi := 3) (x := 3) rfl) c131 rfl
      have f133 : iv 0 11 (h 11 (a2.toNatClampNeg)) := KVn I f132 rfl
      refine sf_n (iv_in f_a2 rfl) ?_
      refine sf_n (iv_in f133 rfl) ?_
      refine sf_if (fun c134 => ?_) (fun c134 => ?_)
      · have f135 : iv 0 3 (h 17 ((h 11 (a2.toNatClampNeg)).toNatClampNeg)) := iv_eql (iv_any (h 17 ((h 11 (a2.toNatClampNeg)).toNatClampNeg))) f_a0 c134 rfl
        exact ⟨trivial, (iv_w (c := 0) (d := 19) (iv_lit (lo := 0) (hi := 0) (x := 0) rfl) rfl), fun _ => ⟨fun e => absurd (c128.symm.trans e) (by decide), fun e => absurd (c128.symm.trans e) (by decide), fun e => absurd (c128.symm.trans e) (by decide), fun e => absurd (c128.symm.trans e) (by decide), fun e => absurd (c128.symm.trans e) (by decide), fun e => absurd (c128.symm.trans e) (by decide), fun _ => f133, fun e => absurd (c128.symm.trans e) (by decide), fun e => absurd (c128.symm.trans e) (by decide)⟩⟩
      · exact ⟨trivial, (iv_w (c := 0) (d := 19) (iv_lit (lo := 6) (hi := 6) (x := 6) rfl) rfl), fun z => absurd z (iv_ne0 (iv_lit (lo := 6) (hi := 6) (x := 6) rfl) rfl)⟩
    · have f136 : iv 0 2 (h 10 (a2.toNatClampNeg)) := iv_nel f130 c131 rfl
      exact ⟨trivial, (iv_w (c := 0) (d := 19) (iv_lit (lo := 1) (hi := 1) (x := 1) rfl) rfl), fun z => absurd z (iv_ne0 (iv_lit (lo := 1) (hi := 1) (x := 1) rfl) rfl)⟩
  refine sf_if (fun c137 => ?_) (fun c137 => ?_)
  · have f138 : iv 15 15 a1 := iv_eql (iv_any a1) (iv_lit (lo := 15) (hi := 15) (x := 15) rfl) c137 rfl
    refine sf_n (iv_in f_a2 rfl) ?_
    have f139 : iv 0 3 (h 10 (a2.toNatClampNeg)) := IMv I 10 _
    refine sf_if (fun c140 => ?_) (fun c140 => ?_)
    · have f141 : iv 3 3 (h 10 (a2.toNatClampNeg)) := iv_eql f139 (iv_lit (lo := 3) (hi := 3) (x := 3) rfl) c140 rfl
      have f142 : iv 0 11 (h 11 (a2.toNatClampNeg)) := KVn I f141 rfl
      refine sf_n (iv_in f_a2 rfl) ?_
      refine sf_n (iv_in f142 rfl) ?_
      refine sf_if (fun c143 => ?_) (fun c143 => ?_)
      · have f144 : iv 0 3 (h 17 ((h 11 (a2.toNatClampNeg)).toNatClampNeg)) := iv_eql (iv_any (h 17 ((h 11 (a2.toNatClampNeg)).toNatClampNeg))) f_a0 c143 rfl
        exact ⟨trivial, (iv_w (c := 0) (d := 19) (iv_lit (lo := 0) (hi := 0) (x := 0) rfl) rfl), fun _ => ⟨fun e => absurd (c137.symm.trans e) (by decide), fun e => absurd (c137.symm.trans e) (by decide), fun e => absurd (c137.symm.trans e) (by decide), fun e => absurd (c137.symm.trans e) (by decide), fun e => absurd (c137.symm.trans e) (by decide), fun e => absurd (c137.symm.trans e) (by decide), fun e => absurd (c137.symm.trans e) (by decide), fun _ => f142, fun e => absurd (c137.symm.trans e) (by decide)⟩⟩
      · exact ⟨trivial, (iv_w (c := 0) (d := 19) (iv_lit (lo := 6) (hi := 6) (x := 6) rfl) rfl), fun z => absurd z (iv_ne0 (iv_lit (lo := 6) (hi := 6) (x := 6) rfl) rfl)⟩
    · have f145 : iv 0 2 (h 10 (a2.toNatClampNeg)) := iv_nel f139 c140 rfl
      exact ⟨trivial, (iv_w (c := 0) (d := 19) (iv_lit (lo := 1) (hi := 1) (x := 1) rfl) rfl), fun z => absurd z (iv_ne0 (iv_lit (lo := 1) (hi := 1) (x := 1) rfl) rfl)⟩
  refine sf_if (fun c146 => ?_) (fun c146 => ?_)
  · have f147 : iv 16 16 a1 := iv_eql (iv_any a1) (iv_lit (lo := 16) (hi := 16) (x := 16) rfl) c146 rfl
    have f148 : iv 0 1 (h 0 33) := IMv I 0 _
    refine sf_if (fun c149 => ?_) (fun c149 => ?_)
    · have f150 : iv 0 0 (h 0 33) := iv_eql f148 (iv_lit (lo := 0) (hi := 0) (x := 0) rfl) c149 rfl
      have f151 : iv 0 30 (h 0 23) := IMv I 0 _
      have f152 : iv 0 30 (h 0 7) := IMv I 0 _
      refine sf_if (fun c153 => ?_) (fun c153 => ?_)
      · exact ⟨trivial, (iv_w (c := 0) (d := 19) (iv_lit (lo := 7) (hi := 7) (x := 7) rfl) rfl), fun z => absurd z (iv_ne0 (iv_lit (lo := 7) (hi := 7) (x := 7) rfl) rfl)⟩
      · exact ⟨trivial, (iv_w (c := 0) (d := 19) (iv_lit (lo := 0) (hi := 0) (x := 0) rfl) rfl), fun _ => ⟨fun e => absurd (c146.symm.trans e) (by decide), fun e => absurd (c146.symm.trans e) (by decide), fun e => absurd (c146.symm.trans e) (by decide), fun e => absurd (c146.symm.trans e) (by decide), fun e => absurd (c146.symm.trans e) (by decide), fun e => absurd (c146.symm.trans e) (by decide), fun e => absurd (c146.symm.trans e) (by decide), fun e => absurd (c146.symm.trans e) (by decide), fun _ _ => c153⟩⟩
    · have f154 : iv 1 1 (h 0 33) := iv_nel f148 c149 rfl
      exact ⟨trivial, (iv_w (c := 0) (d := 19) (iv_lit (lo := 0) (hi := 0) (x := 0) rfl) rfl), fun _ => ⟨fun e => absurd (c146.symm.trans e) (by decide), fun e => absurd (c146.symm.trans e) (by decide), fun e => absurd (c146.symm.trans e) (by decide), fun e => absurd (c146.symm.trans e) (by decide), fun e => absurd (c146.symm.trans e) (by decide), fun e => absurd (c146.symm.trans e) (by decide), fun e => absurd (c146.symm.trans e) (by decide), fun e => absurd (c146.symm.trans e) (by decide), fun _ e => absurd e c149⟩⟩
  refine sf_if (fun c155 => ?_) (fun c155 => ?_)
  · have f156 : iv 17 17 a1 := iv_eql (iv_any a1) (iv_lit (lo := 17) (hi := 17) (x := 17) rfl) c155 rfl
    exact ⟨trivial, (iv_w (c := 0) (d := 19) (iv_lit (lo := 0) (hi := 0) (x := 0) rfl) rfl), fun _ => ⟨fun e => absurd (c155.symm.trans e) (by decide), fun e => absurd (c155.symm.trans e) (by decide), fun e => absurd (c155.symm.trans e) (by decide), fun e => absurd (c155.symm.trans e) (by decide), fun e => absurd (c155.symm.trans e) (by decide), fun e => absurd (c155.symm.trans e) (by decide), fun e => absurd (c155.symm.trans e) (by decide), fun e => absurd (c155.symm.trans e) (by decide), fun e => absurd (c155.symm.trans e) (by decide)⟩⟩
  refine sf_if (fun c157 => ?_) (fun c157 => ?_)
  · have f158 : iv 18 18 a1 := iv_eql (iv_any a1) (iv_lit (lo := 18) (hi := 18) (x := 18) rfl) c157 rfl
    refine sf_n (modulo_p (m := 10) (by decide) (by decide)) ?_
    have f159 : iv 0 9 (FX12_modulo a5 10) := modulo_iv (m := 10) rfl
    have f160 : iv 10 19 (10 + (FX12_modulo a5 10)) := iv_add (iv_lit (lo := 10) (hi := 10) (x := 10) rfl) f159 rfl
    exact ⟨trivial, (iv_w (c := 0) (d := 19) f160 rfl), fun z => absurd z (iv_ne0 f160 rfl)⟩
  exact ⟨trivial, (iv_w (c := 0) (d := 19) (iv_lit (lo := 0) (hi := 0) (x := 0) rfl) rfl), fun _ => ⟨fun e => absurd e c46, fun e => absurd e c63, fun e => absurd e c80, fun e => absurd e c102, fun e => absurd e c108, fun e => absurd e c118, fun e => absurd e c128, fun e => absurd e c137, fun e => absurd e c146⟩⟩

-- X12_work
set_option maxRecDepth 100000 in
set_option maxHeartbeats 4000000 in
theorem SX12_work_391 {z : zT} : ∀ (q : Nat) (x3 : Int32) (x6 : Int32) (h : ph_H), IM z h → iv 0 27 x3 → iv 0 4 x6 → 4 - (x6).toInt < ((q : Nat) : Int) → PX12_work_391  q x3 x6 h ∧ IM z (FX12_work_391  q x3 x6 h) := by
  intro q
  induction q with
  | zero =>
    intro x3 x6 h I f_x3 f_x6 mq
    exact mu_zu f_x6 mq rfl
  | succ q ih =>
    intro x3 x6 h I f_x3 f_x6 mq
    unfold PX12_work_391 FX12_work_391
    refine sf_if (fun c1 => ?_) (fun c1 => ?_)
    · have f2 : iv 4 4 x6 := iv_ler f_x6 (iv_lit (lo := 4) (hi := 4) (x := 4) rfl) c1 rfl
      exact ⟨trivial, I⟩
    · have f3 : iv 0 3 x6 := iv_ltl f_x6 (iv_lit (lo := 4) (hi := 4) (x := 4) rfl) (nle c1) rfl
      refine sf_n (iv_in f3 rfl) ?_
      have f4 : iv (-1) 11 (h 14 (x6.toNatClampNeg)) := IMv I 14 _
      refine sf_n (iv_in f_x3 rfl) ?_
      refine sf_if (fun c5 => ?_) (fun c5 => ?_)
      · have f6 : iv (-1) 11 (h 11 (x3.toNatClampNeg)) := iv_eqr (iv_any (h 11 (x3.toNatClampNeg))) f4 c5 rfl
        refine sf_n (iv_in f3 rfl) ?_
        refine sf_n (iv_in f3 rfl) ?_
        have I7 : IM z (hs h 15 x6.toNatClampNeg (h 14 (x6.toNatClampNeg))) := IMs I (k := 15) (i := x6.toNatClampNeg) (v := (h 14 (x6.toNatClampNeg))) f4 rfl
        refine sf_n (iv_in f3 rfl) ?_
        have I8 : IM z (hs (hs h 15 x6.toNatClampNeg (h 14 (x6.toNatClampNeg))) 14 x6.toNatClampNeg (-1)) := IMs I7 (k := 14) (i := x6.toNatClampNeg) (v := (-1)) (iv_w (c := (-1)) (d := 11) (iv_lit (lo := (-1)) (hi := (-1)) (x := (-1)) rfl) rfl) rfl
        unfold PX12_work_435 FX12_work_435
        have f9 : iv 1 4 (x6 + 1) := iv_add f3 (iv_lit (lo := 1) (hi := 1) (x := 1) rfl) rfl
        exact ih x3 (x6 + 1) (hs (hs h 15 x6.toNatClampNeg (h 14 (x6.toNatClampNeg))) 14 x6.toNatClampNeg (-1)) I8 f_x3 (iv_w (c := 0) (d := 4) f9 rfl) (mu_up f3 mq rfl)
      · unfold PX12_work_435 FX12_work_435
        have f10 : iv 1 4 (x6 + 1) := iv_add f3 (iv_lit (lo := 1) (hi := 1) (x := 1) rfl) rfl
        exact ih x3 (x6 + 1) h I f_x3 (iv_w (c := 0) (d := 4) f10 rfl) (mu_up f3 mq rfl)
set_option maxRecDepth 100000 in
set_option maxHeartbeats 4000000 in
theorem SX12_work {z : zT} (a0 : Int32) (a1 : Int32) (a2 : Int32) (a3 : Int32) (a4 : Int32) (h : ph_H) (I : IM z h) (f_a0 : iv 0 3 a0) (f_a2 : iv 0 27 a2) (f_a3 : iv 0 27 a3) (f_a4 : iv 0 27 a4) (W : WOK a1 a2 a3 a4 h) : PX12_work a0 a1 a2 a3 a4 h ∧ IM z (FX12_work a0 a1 a2 a3 a4 h) := by
  unfold PX12_work FX12_work
  refine sf_if (fun c1 => ?_) (fun c1 => ?_)
  · have f2 : iv 3 3 a1 := iv_eql (iv_any a1) (iv_lit (lo := 3) (hi := 3) (x := 3) rfl) c1 rfl
    refine sf_n (iv_in f_a2 rfl) ?_
    refine sf_n (iv_in f_a3 rfl) ?_
    have s3 := SX12_set (z := z) a2 0 ((h 11 (a2.toNatClampNeg)) + (h 11 (a3.toNatClampNeg))) h I f_a2 (iv_w (c := 0) (d := 3) (iv_lit (lo := 0) (hi := 0) (x := 0) rfl) rfl) (Or.inl rfl)
    refine sf_n s3.1 ?_
    unfold PX12_work_88 FX12_work_88
    exact ⟨trivial, s3.2⟩
  refine sf_if (fun c4 => ?_) (fun c4 => ?_)
  · have f5 : iv 4 4 a1 := iv_eql (iv_any a1) (iv_lit (lo := 4) (hi := 4) (x := 4) rfl) c4 rfl
    refine sf_n (iv_in f_a2 rfl) ?_
    refine sf_n (iv_in f_a3 rfl) ?_
    have s6 := SX12_set (z := z) a2 0 ((h 11 (a2.toNatClampNeg)) - (h 11 (a3.toNatClampNeg))) h I f_a2 (iv_w (c := 0) (d := 3) (iv_lit (lo := 0) (hi := 0) (x := 0) rfl) rfl) (Or.inl rfl)
    refine sf_n s6.1 ?_
    unfold PX12_work_111 FX12_work_111
    exact ⟨trivial, s6.2⟩
  refine sf_if (fun c7 => ?_) (fun c7 => ?_)
  · have f8 : iv 5 5 a1 := iv_eql (iv_any a1) (iv_lit (lo := 5) (hi := 5) (x := 5) rfl) c7 rfl
    refine sf_n (iv_in f_a2 rfl) ?_
    refine sf_n (iv_in f_a3 rfl) ?_
    have s9 := SX12_set (z := z) a2 0 ((h 11 (a2.toNatClampNeg)) * (h 11 (a3.toNatClampNeg))) h I f_a2 (iv_w (c := 0) (d := 3) (iv_lit (lo := 0) (hi := 0) (x := 0) rfl) rfl) (Or.inl rfl)
    refine sf_n s9.1 ?_
    unfold PX12_work_134 FX12_work_134
    exact ⟨trivial, s9.2⟩
  refine sf_if (fun c10 => ?_) (fun c10 => ?_)
  · have f11 : iv 6 6 a1 := iv_eql (iv_any a1) (iv_lit (lo := 6) (hi := 6) (x := 6) rfl) c10 rfl
    exact ⟨trivial, I⟩
  refine sf_if (fun c12 => ?_) (fun c12 => ?_)
  · have f13 : iv 7 7 a1 := iv_eql (iv_any a1) (iv_lit (lo := 7) (hi := 7) (x := 7) rfl) c12 rfl
    exact ⟨trivial, I⟩
  refine sf_if (fun c14 => ?_) (fun c14 => ?_)
  · have f15 : iv 0 16 (h 11 (a3.toNatClampNeg)) := iv_and (iv_any _) (W.1 c14).1 rfl
    have f16 : iv 0 11 (h 0 18) := iv_and (iv_any _) (W.1 c14).2 rfl
    have f17 : iv 8 8 a1 := iv_eql (iv_any a1) (iv_lit (lo := 8) (hi := 8) (x := 8) rfl) c14 rfl
    refine sf_n (iv_in f_a3 rfl) ?_
    have s18 := SX12_newThing (z := z) 1 (h 11 (a3.toNatClampNeg)) h I f15 f16
    refine sf_n s18.1 ?_
    unfold PX12_work_152 FX12_work_152
    have s19 := SX12_set (z := z) a2 1 ((FX12_newThing 1 (h 11 (a3.toNatClampNeg)) h).1) ((FX12_newThing 1 (h 11 (a3.toNatClampNeg)) h).2) s18.2.2 f_a2 (iv_w (c := 0) (d := 3) (iv_lit (lo := 1) (hi := 1) (x := 1) rfl) rfl) (Or.inr s18.2.1)
    refine sf_n s19.1 ?_
    unfold PX12_work_155 FX12_work_155
    exact ⟨trivial, s19.2⟩
  refine sf_if (fun c20 => ?_) (fun c20 => ?_)
  · have f21 : iv 0 11 (h 11 (a3.toNatClampNeg)) := iv_and (iv_any _) (W.2.1 c20).1 rfl
    have f22 : iv 0 15 (h 11 (a4.toNatClampNeg)) := iv_and (iv_any _) (W.2.1 c20).2 rfl
    have f23 : iv 9 9 a1 := iv_eql (iv_any a1) (iv_lit (lo := 9) (hi := 9) (x := 9) rfl) c20 rfl
    refine sf_n (iv_in f_a3 rfl) ?_
    have f24 : iv 0 220 (20 * (h 11 (a3.toNatClampNeg))) := iv_mul (c := 20) rfl f21 rfl
    have f25 : iv 100 320 (100 + (20 * (h 11 (a3.toNatClampNeg)))) := iv_add (iv_lit (lo := 100) (hi := 100) (x := 100) rfl) f24 rfl
    refine sf_n (iv_in f_a4 rfl) ?_
    have f26 : iv 100 335 ((100 + (20 * (h 11 (a3.toNatClampNeg)))) + (h 11 (a4.toNatClampNeg))) := iv_add f25 f22 rfl
    have I27 : IM z (hs h 0 29 ((100 + (20 * (h 11 (a3.toNatClampNeg)))) + (h 11 (a4.toNatClampNeg)))) := IMs I (k := 0) (i := 29) (v := ((100 + (20 * (h 11 (a3.toNatClampNeg)))) + (h 11 (a4.toNatClampNeg)))) (iv_any ((100 + (20 * (h 11 (a3.toNatClampNeg)))) + (h 11 (a4.toNatClampNeg)))) rfl
    refine sf_n (iv_in f_a3 rfl) ?_
    have f28 : iv 0 176 (16 * (h 11 (a3.toNatClampNeg))) := iv_mul (c := 16) rfl f21 rfl
    refine sf_n (iv_in f_a4 rfl) ?_
    have f29 : iv 0 191 ((16 * (h 11 (a3.toNatClampNeg))) + (h 11 (a4.toNatClampNeg))) := iv_add f28 f22 rfl
    refine sf_n (iv_in f29 rfl) ?_
    have s30 := SX12_set (z := z) a2 0 (h 19 (((16 * (h 11 (a3.toNatClampNeg))) + (h 11 (a4.toNatClampNeg))).toNatClampNeg)) (hs h 0 29 ((100 + (20 * (h 11 (a3.toNatClampNeg)))) + (h 11 (a4.toNatClampNeg)))) I27 f_a2 (iv_w (c := 0) (d := 3) (iv_lit (lo := 0) (hi := 0) (x := 0) rfl) rfl) (Or.inl rfl)
    refine sf_n s30.1 ?_
    unfold PX12_work_212 FX12_work_212
    exact ⟨trivial, s30.2⟩
  refine sf_if (fun c31 => ?_) (fun c31 => ?_)
  · have f32 : iv 0 11 (h 11 (a2.toNatClampNeg)) := iv_and (iv_any _) (W.2.2.1 c31).1 rfl
    have f33 : iv 0 15 (h 11 (a3.toNatClampNeg)) := iv_and (iv_any _) (W.2.2.1 c31).2 rfl
    have f34 : iv 10 10 a1 := iv_eql (iv_any a1) (iv_lit (lo := 10) (hi := 10) (x := 10) rfl) c31 rfl
    refine sf_n (iv_in f_a2 rfl) ?_
    have f35 : iv 0 220 (20 * (h 11 (a2.toNatClampNeg))) := iv_mul (c := 20) rfl f32 rfl
    have f36 : iv 100 320 (100 + (20 * (h 11 (a2.toNatClampNeg)))) := iv_add (iv_lit (lo := 100) (hi := 100) (x := 100) rfl) f35 rfl
    refine sf_n (iv_in f_a3 rfl) ?_
    have f37 : iv 100 335 ((100 + (20 * (h 11 (a2.toNatClampNeg)))) + (h 11 (a3.toNatClampNeg))) := iv_add f36 f33 rfl
    have I38 : IM z (hs h 0 30 ((100 + (20 * (h 11 (a2.toNatClampNeg)))) + (h 11 (a3.toNatClampNeg)))) := IMs I (k := 0) (i := 30) (v := ((100 + (20 * (h 11 (a2.toNatClampNeg)))) + (h 11 (a3.toNatClampNeg)))) (iv_any ((100 + (20 * (h 11 (a2.toNatClampNeg)))) + (h 11 (a3.toNatClampNeg)))) rfl
    refine sf_n (iv_in f_a2 rfl) ?_
    have f39 : iv 0 176 (16 * (h 11 (a2.toNatClampNeg))) := iv_mul (c := 16) rfl f32 rfl
    refine sf_n (iv_in f_a3 rfl) ?_
    have f40 : iv 0 191 ((16 * (h 11 (a2.toNatClampNeg))) + (h 11 (a3.toNatClampNeg))) := iv_add f39 f33 rfl
    refine sf_n (iv_in f_a4 rfl) ?_
    refine sf_n (iv_in f40 rfl) ?_
    have I41 : IM z (hs (hs h 0 30 ((100 + (20 * (h 11 (a2.toNatClampNeg)))) + (h 11 (a3.toNatClampNeg)))) 19 ((16 * (h 11 (a2.toNatClampNeg))) + (h 11 (a3.toNatClampNeg))).toNatClampNeg (h 11 (a4.toNatClampNeg))) := IMs I38 (k := 19) (i := ((16 * (h 11 (a2.toNatClampNeg))) + (h 11 (a3.toNatClampNeg))).toNatClampNeg) (v := (h 11 (a4.toNatClampNeg))) (iv_any (h 11 (a4.toNatClampNeg))) rfl
    exact ⟨trivial, I41⟩
  refine sf_if (fun c42 => ?_) (fun c42 => ?_)
  · have f43 : iv 0 11 (h 0 18) := iv_and (iv_any _) (W.2.2.2.1 c42) rfl
    have f44 : iv 11 11 a1 := iv_eql (iv_any a1) (iv_lit (lo := 11) (hi := 11) (x := 11) rfl) c42 rfl
    exact ⟨trivial, I⟩
  refine sf_if (fun c45 => ?_) (fun c45 => ?_)
  · have f46 : iv 0 11 (h 11 (a2.toNatClampNeg)) := iv_and (iv_any _) (W.2.2.2.2.1 c45) rfl
    have f47 : iv 12 12 a1 := iv_eql (iv_any a1) (iv_lit (lo := 12) (hi := 12) (x := 12) rfl) c45 rfl
    refine sf_n (iv_in f_a2 rfl) ?_
    refine sf_n (iv_in f46 rfl) ?_
    have I48 : IM z (hs h 17 (h 11 (a2.toNatClampNeg)).toNatClampNeg a0) := IMs I (k := 17) (i := (h 11 (a2.toNatClampNeg)).toNatClampNeg) (v := a0) (iv_any a0) rfl
    have I49 : IM z (hs (hs h 17 (h 11 (a2.toNatClampNeg)).toNatClampNeg a0) 0 31 1) := IMs I48 (k := 0) (i := 31) (v := 1) (iv_any 1) rfl
    refine sf_n (iv_in f_a2 rfl) ?_
    have I50 : IM z (hs (hs (hs h 17 (h 11 (a2.toNatClampNeg)).toNatClampNeg a0) 0 31 1) 0 32 (h 11 (a2.toNatClampNeg))) := IMs I49 (k := 0) (i := 32) (v := (h 11 (a2.toNatClampNeg))) (iv_any (h 11 (a2.toNatClampNeg))) rfl
    exact ⟨trivial, I50⟩
  refine sf_if (fun c51 => ?_) (fun c51 => ?_)
  · have f52 : iv 0 11 (h 11 (a2.toNatClampNeg)) := iv_and (iv_any _) (W.2.2.2.2.2.1 c51) rfl
    have f53 : iv 13 13 a1 := iv_eql (iv_any a1) (iv_lit (lo := 13) (hi := 13) (x := 13) rfl) c51 rfl
    refine sf_n (iv_in f_a2 rfl) ?_
    refine sf_n (iv_in f52 rfl) ?_
    have I54 : IM z (hs h 17 (h 11 (a2.toNatClampNeg)).toNatClampNeg (-1)) := IMs I (k := 17) (i := (h 11 (a2.toNatClampNeg)).toNatClampNeg) (v := (-1)) (iv_any (-1)) rfl
    have I55 : IM z (hs (hs h 17 (h 11 (a2.toNatClampNeg)).toNatClampNeg (-1)) 0 31 2) := IMs I54 (k := 0) (i := 31) (v := 2) (iv_any 2) rfl
    refine sf_n (iv_in f_a2 rfl) ?_
    have I56 : IM z (hs (hs (hs h 17 (h 11 (a2.toNatClampNeg)).toNatClampNeg (-1)) 0 31 2) 0 32 (h 11 (a2.toNatClampNeg))) := IMs I55 (k := 0) (i := 32) (v := (h 11 (a2.toNatClampNeg))) (iv_any (h 11 (a2.toNatClampNeg))) rfl
    exact ⟨trivial, I56⟩
  refine sf_if (fun c57 => ?_) (fun c57 => ?_)
  · have f58 : iv 0 11 (h 11 (a2.toNatClampNeg)) := iv_and (iv_any _) (W.2.2.2.2.2.2.1 c57) rfl
    have f59 : iv 14 14 a1 := iv_eql (iv_any a1) (iv_lit (lo := 14) (hi := 14) (x := 14) rfl) c57 rfl
    refine sf_n (iv_in f_a2 rfl) ?_
    refine sf_n (iv_in f58 rfl) ?_
    have I60 : IM z (hs h 17 (h 11 (a2.toNatClampNeg)).toNatClampNeg (-1)) := IMs I (k := 17) (i := (h 11 (a2.toNatClampNeg)).toNatClampNeg) (v := (-1)) (iv_any (-1)) rfl
    refine sf_n (iv_in f_a2 rfl) ?_
    refine sf_n (iv_in f_a0 rfl) ?_
    have I61 : IM z (hs (hs h 17 (h 11 (a2.toNatClampNeg)).toNatClampNeg (-1)) 14 a0.toNatClampNeg (h 11 (a2.toNatClampNeg))) := IMs I60 (k := 14) (i := a0.toNatClampNeg) (v := (h 11 (a2.toNatClampNeg))) (iv_w (c := (-1)) (d := 11) f58 rfl) rfl
    have I62 : IM z (hs (hs (hs h 17 (h 11 (a2.toNatClampNeg)).toNatClampNeg (-1)) 14 a0.toNatClampNeg (h 11 (a2.toNatClampNeg))) 0 31 2) := IMs I61 (k := 0) (i := 31) (v := 2) (iv_any 2) rfl
    refine sf_n (iv_in f_a2 rfl) ?_
    have I63 : IM z (hs (hs (hs (hs h 17 (h 11 (a2.toNatClampNeg)).toNatClampNeg (-1)) 14 a0.toNatClampNeg (h 11 (a2.toNatClampNeg))) 0 31 2) 0 32 (h 11 (a2.toNatClampNeg))) := IMs I62 (k := 0) (i := 32) (v := (h 11 (a2.toNatClampNeg))) (iv_any (h 11 (a2.toNatClampNeg))) rfl
    exact ⟨trivial, I63⟩
  refine sf_if (fun c64 => ?_) (fun c64 => ?_)
  · have f65 : iv 0 11 (h 11 (a2.toNatClampNeg)) := iv_and (iv_any _) (W.2.2.2.2.2.2.2.1 c64) rfl
    have f66 : iv 15 15 a1 := iv_eql (iv_any a1) (iv_lit (lo := 15) (hi := 15) (x := 15) rfl) c64 rfl
    have I67 : IM z (hs h 0 31 3) := IMs I (k := 0) (i := 31) (v := 3) (iv_any 3) rfl
    refine sf_n (iv_in f_a2 rfl) ?_
    have I68 : IM z (hs (hs h 0 31 3) 0 32 (h 11 (a2.toNatClampNeg))) := IMs I67 (k := 0) (i := 32) (v := (h 11 (a2.toNatClampNeg))) (iv_any (h 11 (a2.toNatClampNeg))) rfl
    exact SX12_work_391 2000 a2 0 (hs (hs h 0 31 3) 0 32 (h 11 (a2.toNatClampNeg))) I68 f_a2 (iv_w (c := 0) (d := 4) (iv_lit (lo := 0) (hi := 0) (x := 0) rfl) rfl) (mu_0u (iv_lit (lo := 0) (hi := 0) (x := 0) rfl) rfl)
  exact ⟨trivial, I⟩

-- X12_workPlain
set_option maxRecDepth 100000 in
set_option maxHeartbeats 4000000 in
theorem SX12_workPlain {z : zT} (a0 : Int32) (a1 : Int32) (a2 : Int32) (a3 : Int32) (h : ph_H) (I : IM z h) (f_a0 : iv 0 3 a0) (f_a1 : iv 0 95 a1) (f_a2 : iv 0 27 a2) (f_a3 : iv 0 27 a3) (W : ((h 2 (a1.toNatClampNeg)) = 11 → iv 0 11 (h 0 18)) ∧ ((h 2 (a1.toNatClampNeg)) = 16 → iv 0 29 (h 0 23))) : PX12_workPlain a0 a1 a2 a3 h ∧ IM (wz (h 2 (a1.toNatClampNeg)) z (h 0 23)) (FX12_workPlain a0 a1 a2 a3 h) := by
  unfold PX12_workPlain FX12_workPlain
  refine sf_n (iv_in f_a1 rfl) ?_
  refine sf_n (iv_in f_a1 rfl) ?_
  refine sf_n (iv_in f_a1 rfl) ?_
  refine sf_if (fun c1 => ?_) (fun c1 => ?_)
  · have f2 : iv 0 0 (h 2 (a1.toNatClampNeg)) := iv_eql (iv_any (h 2 (a1.toNatClampNeg))) (iv_lit (lo := 0) (hi := 0) (x := 0) rfl) c1 rfl
    have s3 := SX12_set (z := z) a2 0 (h 4 (a1.toNatClampNeg)) h I f_a2 (iv_w (c := 0) (d := 3) (iv_lit (lo := 0) (hi := 0) (x := 0) rfl) rfl) (Or.inl rfl)
    refine sf_n s3.1 ?_
    unfold PX12_workPlain_116 FX12_workPlain_116
    exact ⟨trivial, wz_n (fun e => absurd (c1.symm.trans e) (by decide)) s3.2⟩
  refine sf_if (fun c4 => ?_) (fun c4 => ?_)
  · have f5 : iv 1 1 (h 2 (a1.toNatClampNeg)) := iv_eql (iv_any (h 2 (a1.toNatClampNeg))) (iv_lit (lo := 1) (hi := 1) (x := 1) rfl) c4 rfl
    refine sf_n (modulo_p (m := 12) (by decide) (by decide)) ?_
    have f6 : iv 0 11 (FX12_modulo (h 4 (a1.toNatClampNeg)) 12) := modulo_iv (m := 12) rfl
    have I7 : IM z (hs h 0 29 (FX12_modulo (h 4 (a1.toNatClampNeg)) 12)) := IMs I (k := 0) (i := 29) (v := (FX12_modulo (h 4 (a1.toNatClampNeg)) 12)) (iv_any (FX12_modulo (h 4 (a1.toNatClampNeg)) 12)) rfl
    refine sf_n (iv_in f6 rfl) ?_
    have f8 : iv 0 3 (h 10 ((FX12_modulo (h 4 (a1.toNatClampNeg)) 12).toNatClampNeg)) := IMv I 10 _
    refine sf_n (iv_in f6 rfl) ?_
    have s9 := SX12_set (z := z) a2 (h 10 ((FX12_modulo (h 4 (a1.toNatClampNeg)) 12).toNatClampNeg)) (h 11 ((FX12_modulo (h 4 (a1.toNatClampNeg)) 12).toNatClampNeg)) (hs h 0 29 (FX12_modulo (h 4 (a1.toNatClampNeg)) 12)) I7 f_a2 f8 (I.2.1 _)
    refine sf_n s9.1 ?_
    unfold PX12_workPlain_153 FX12_workPlain_153
    exact ⟨trivial, wz_n (fun e => absurd (c4.symm.trans e) (by decide)) s9.2⟩
  refine sf_if (fun c10 => ?_) (fun c10 => ?_)
  · have f11 : iv 2 2 (h 2 (a1.toNatClampNeg)) := iv_eql (iv_any (h 2 (a1.toNatClampNeg))) (iv_lit (lo := 2) (hi := 2) (x := 2) rfl) c10 rfl
    refine sf_n (modulo_p (m := 12) (by decide) (by decide)) ?_
    have f12 : iv 0 11 (FX12_modulo (h 3 (a1.toNatClampNeg)) 12) := modulo_iv (m := 12) rfl
    have I13 : IM z (hs h 0 30 (FX12_modulo (h 3 (a1.toNatClampNeg)) 12)) := IMs I (k := 0) (i := 30) (v := (FX12_modulo (h 3 (a1.toNatClampNeg)) 12)) (iv_any (FX12_modulo (h 3 (a1.toNatClampNeg)) 12)) rfl
    refine sf_n (iv_in f_a3 rfl) ?_
    have f14 : iv 0 3 (h 10 (a3.toNatClampNeg)) := IMv I 10 _
    refine sf_n (iv_in f_a3 rfl) ?_
    have s15 := SX12_set (z := z) (FX12_modulo (h 3 (a1.toNatClampNeg)) 12) (h 10 (a3.toNatClampNeg)) (h 11 (a3.toNatClampNeg)) (hs h 0 30 (FX12_modulo (h 3 (a1.toNatClampNeg)) 12)) I13 (iv_w (c := 0) (d := 27) f12 rfl) f14 (I.2.1 _)
    refine sf_n s15.1 ?_
    unfold PX12_workPlain_191 FX12_workPlain_191
    exact ⟨trivial, wz_n (fun e => absurd (c10.symm.trans e) (by decide)) s15.2⟩
  refine sf_if (fun c16 => ?_) (fun c16 => ?_)
  · have f17 : iv 3 3 (h 2 (a1.toNatClampNeg)) := iv_eql (iv_any (h 2 (a1.toNatClampNeg))) (iv_lit (lo := 3) (hi := 3) (x := 3) rfl) c16 rfl
    exact ⟨trivial, wz_n (fun e => absurd (c16.symm.trans e) (by decide)) I⟩
  refine sf_if (fun c18 => ?_) (fun c18 => ?_)
  · have f19 : iv 4 4 (h 2 (a1.toNatClampNeg)) := iv_eql (iv_any (h 2 (a1.toNatClampNeg))) (iv_lit (lo := 4) (hi := 4) (x := 4) rfl) c18 rfl
    exact ⟨trivial, wz_n (fun e => absurd (c18.symm.trans e) (by decide)) I⟩
  refine sf_if (fun c20 => ?_) (fun c20 => ?_)
  · have f21 : iv 5 5 (h 2 (a1.toNatClampNeg)) := iv_eql (iv_any (h 2 (a1.toNatClampNeg))) (iv_lit (lo := 5) (hi := 5) (x := 5) rfl) c20 rfl
    exact ⟨trivial, wz_n (fun e => absurd (c20.symm.trans e) (by decide)) I⟩
  refine sf_if (fun c22 => ?_) (fun c22 => ?_)
  · have f23 : iv 6 6 (h 2 (a1.toNatClampNeg)) := iv_eql (iv_any (h 2 (a1.toNatClampNeg))) (iv_lit (lo := 6) (hi := 6) (x := 6) rfl) c22 rfl
    exact ⟨trivial, wz_n (fun e => absurd (c22.symm.trans e) (by decide)) I⟩
  refine sf_if (fun c24 => ?_) (fun c24 => ?_)
  · have f25 : iv 7 7 (h 2 (a1.toNatClampNeg)) := iv_eql (iv_any (h 2 (a1.toNatClampNeg))) (iv_lit (lo := 7) (hi := 7) (x := 7) rfl) c24 rfl
    exact ⟨trivial, wz_n (fun e => absurd (c24.symm.trans e) (by decide)) I⟩
  refine sf_if (fun c26 => ?_) (fun c26 => ?_)
  · have f27 : iv 8 8 (h 2 (a1.toNatClampNeg)) := iv_eql (iv_any (h 2 (a1.toNatClampNeg))) (iv_lit (lo := 8) (hi := 8) (x := 8) rfl) c26 rfl
    exact ⟨trivial, wz_n (fun e => absurd (c26.symm.trans e) (by decide)) I⟩
  refine sf_if (fun c28 => ?_) (fun c28 => ?_)
  · have f29 : iv 9 9 (h 2 (a1.toNatClampNeg)) := iv_eql (iv_any (h 2 (a1.toNatClampNeg))) (iv_lit (lo := 9) (hi := 9) (x := 9) rfl) c28 rfl
    exact ⟨trivial, wz_n (fun e => absurd (c28.symm.trans e) (by decide)) I⟩
  refine sf_if (fun c30 => ?_) (fun c30 => ?_)
  · have f31 : iv 10 10 (h 2 (a1.toNatClampNeg)) := iv_eql (iv_any (h 2 (a1.toNatClampNeg))) (iv_lit (lo := 10) (hi := 10) (x := 10) rfl) c30 rfl
    exact ⟨trivial, wz_n (fun e => absurd (c30.symm.trans e) (by decide)) I⟩
  refine sf_if (fun c32 => ?_) (fun c32 => ?_)
  · have f33 : iv 0 11 (h 0 18) := iv_and (iv_any _) (W.1 c32) rfl
    have f34 : iv 11 11 (h 2 (a1.toNatClampNeg)) := iv_eql (iv_any (h 2 (a1.toNatClampNeg))) (iv_lit (lo := 11) (hi := 11) (x := 11) rfl) c32 rfl
    refine sf_if (fun c35 => ?_) (fun c35 => ?_)
    · have f36 : iv 0 0 ((h 4 (a1.toNatClampNeg)) - (h 4 (a1.toNatClampNeg)) / 2 * 2) := iv_eql (iv_any ((h 4 (a1.toNatClampNeg)) - (h 4 (a1.toNatClampNeg)) / 2 * 2)) (iv_lit (lo := 0) (hi := 0) (x := 0) rfl) c35 rfl
      unfold PX12_workPlain_206 FX12_workPlain_206
      have s37 := SX12_newThing (z := z) 2 0 h I (iv_w (c := 0) (d := 16) (iv_lit (lo := 0) (hi := 0) (x := 0) rfl) rfl) f33
      refine sf_n s37.1 ?_
      unfold PX12_workPlain_219 FX12_workPlain_219
      have s38 := SX12_set (z := z) a2 2 ((FX12_newThing 2 0 h).1) ((FX12_newThing 2 0 h).2) s37.2.2 f_a2 (iv_w (c := 0) (d := 3) (iv_lit (lo := 2) (hi := 2) (x := 2) rfl) rfl) (Or.inr s37.2.1)
      refine sf_n s38.1 ?_
      unfold PX12_workPlain_222 FX12_workPlain_222
      exact ⟨trivial, wz_n (fun e => absurd (c32.symm.trans e) (by decide)) s38.2⟩
    · unfold PX12_workPlain_206 FX12_workPlain_206
      have s39 := SX12_newThing (z := z) 3 0 h I (iv_w (c := 0) (d := 16) (iv_lit (lo := 0) (hi := 0) (x := 0) rfl) rfl) f33
      refine sf_n s39.1 ?_
      unfold PX12_workPlain_219 FX12_workPlain_219
      have s40 := SX12_set (z := z) a2 3 ((FX12_newThing 3 0 h).1) ((FX12_newThing 3 0 h).2) s39.2.2 f_a2 (iv_w (c := 0) (d := 3) (iv_lit (lo := 3) (hi := 3) (x := 3) rfl) rfl) (Or.inr s39.2.1)
      refine sf_n s40.1 ?_
      unfold PX12_workPlain_222 FX12_workPlain_222
      exact ⟨trivial, wz_n (fun e => absurd (c32.symm.trans e) (by decide)) s40.2⟩
  refine sf_if (fun c41 => ?_) (fun c41 => ?_)
  · have f42 : iv 12 12 (h 2 (a1.toNatClampNeg)) := iv_eql (iv_any (h 2 (a1.toNatClampNeg))) (iv_lit (lo := 12) (hi := 12) (x := 12) rfl) c41 rfl
    exact ⟨trivial, wz_n (fun e => absurd (c41.symm.trans e) (by decide)) I⟩
  refine sf_if (fun c43 => ?_) (fun c43 => ?_)
  · have f44 : iv 13 13 (h 2 (a1.toNatClampNeg)) := iv_eql (iv_any (h 2 (a1.toNatClampNeg))) (iv_lit (lo := 13) (hi := 13) (x := 13) rfl) c43 rfl
    exact ⟨trivial, wz_n (fun e => absurd (c43.symm.trans e) (by decide)) I⟩
  refine sf_if (fun c45 => ?_) (fun c45 => ?_)
  · have f46 : iv 14 14 (h 2 (a1.toNatClampNeg)) := iv_eql (iv_any (h 2 (a1.toNatClampNeg))) (iv_lit (lo := 14) (hi := 14) (x := 14) rfl) c45 rfl
    exact ⟨trivial, wz_n (fun e => absurd (c45.symm.trans e) (by decide)) I⟩
  refine sf_if (fun c47 => ?_) (fun c47 => ?_)
  · have f48 : iv 15 15 (h 2 (a1.toNatClampNeg)) := iv_eql (iv_any (h 2 (a1.toNatClampNeg))) (iv_lit (lo := 15) (hi := 15) (x := 15) rfl) c47 rfl
    exact ⟨trivial, wz_n (fun e => absurd (c47.symm.trans e) (by decide)) I⟩
  refine sf_if (fun c49 => ?_) (fun c49 => ?_)
  · have f50 : iv 0 29 (h 0 23) := iv_and (iv_any _) (W.2 c49) rfl
    have f51 : iv 16 16 (h 2 (a1.toNatClampNeg)) := iv_eql (iv_any (h 2 (a1.toNatClampNeg))) (iv_lit (lo := 16) (hi := 16) (x := 16) rfl) c49 rfl
    have f52 : iv 0 1 (h 0 33) := IMv I 0 _
    refine sf_if (fun c53 => ?_) (fun c53 => ?_)
    · have f54 : iv 0 0 (h 0 33) := iv_eql f52 (iv_lit (lo := 0) (hi := 0) (x := 0) rfl) c53 rfl
      refine sf_n (iv_in f50 rfl) ?_
      unfold PX12_workPlain_256 FX12_workPlain_256
      have s55 := SX12_set (z := z) a2 0 (h 7 ((h 0 23).toNatClampNeg)) h I f_a2 (iv_w (c := 0) (d := 3) (iv_lit (lo := 0) (hi := 0) (x := 0) rfl) rfl) (Or.inl rfl)
      refine sf_n s55.1 ?_
      unfold PX12_workPlain_259 FX12_workPlain_259
      have f56 : iv 0 29 ((FX12_set a2 0 (h 7 ((h 0 23).toNatClampNeg)) h) 0 23) := iv_r ((IMz s55.2 0 23 rfl).trans (IMz I 0 23 rfl).symm) f50
      have f57 : iv 1 30 (((FX12_set a2 0 (h 7 ((h 0 23).toNatClampNeg)) h) 0 23) + 1) := iv_add f56 (iv_lit (lo := 1) (hi := 1) (x := 1) rfl) rfl
      have I58 : IM (hs z 0 23 (((FX12_set a2 0 (h 7 ((h 0 23).toNatClampNeg)) h) 0 23) + 1)) (hs (FX12_set a2 0 (h 7 ((h 0 23).toNatClampNeg)) h) 0 23 (((FX12_set a2 0 (h 7 ((h 0 23).toNatClampNeg)) h) 0 23) + 1)) := IMg s55.2 (k := 0) (i := 23) (v := (((FX12_set a2 0 (h 7 ((h 0 23).toNatClampNeg)) h) 0 23) + 1)) (iv_w (c := 0) (d := 30) f57 rfl) rfl
      refine ⟨trivial, wz_p c49 ?_⟩
      rw [show (h 0 23) = ((FX12_set a2 0 (h 7 ((h 0 23).toNatClampNeg)) h) 0 23) from (IMz I 0 23 rfl).trans (IMz s55.2 0 23 rfl).symm]
      exact I58
    · have f59 : iv 1 1 (h 0 33) := iv_nel f52 c53 rfl
      refine sf_n (iv_in f50 rfl) ?_
      unfold PX12_workPlain_256 FX12_workPlain_256
      have s60 := SX12_set (z := z) a2 0 (h 36 ((h 0 23).toNatClampNeg)) h I f_a2 (iv_w (c := 0) (d := 3) (iv_lit (lo := 0) (hi := 0) (x := 0) rfl) rfl) (Or.inl rfl)
      refine sf_n s60.1 ?_
      unfold PX12_workPlain_259 FX12_workPlain_259
      have f61 : iv 0 29 ((FX12_set a2 0 (h 36 ((h 0 23).toNatClampNeg)) h) 0 23) := iv_r ((IMz s60.2 0 23 rfl).trans (IMz I 0 23 rfl).symm) f50
      have f62 : iv 1 30 (((FX12_set a2 0 (h 36 ((h 0 23).toNatClampNeg)) h) 0 23) + 1) := iv_add f61 (iv_lit (lo := 1) (hi := 1) (x := 1) rfl) rfl
      have I63 : IM (hs z 0 23 (((FX12_set a2 0 (h 36 ((h 0 23).toNatClampNeg)) h) 0 23) + 1)) (hs (FX12_set a2 0 (h 36 ((h 0 23).toNatClampNeg)) h) 0 23 (((FX12_set a2 0 (h 36 ((h 0 23).toNatClampNeg)) h) 0 23) + 1)) := IMg s60.2 (k := 0) (i := 23) (v := (((FX12_set a2 0 (h 36 ((h 0 23).toNatClampNeg)) h) 0 23) + 1)) (iv_w (c := 0) (d := 30) f62 rfl) rfl
      refine ⟨trivial, wz_p c49 ?_⟩
      rw [show (h 0 23) = ((FX12_set a2 0 (h 36 ((h 0 23).toNatClampNeg)) h) 0 23) from (IMz I 0 23 rfl).trans (IMz s60.2 0 23 rfl).symm]
      exact I63
  refine sf_if (fun c64 => ?_) (fun c64 => ?_)
  · have f65 : iv 17 17 (h 2 (a1.toNatClampNeg)) := iv_eql (iv_any (h 2 (a1.toNatClampNeg))) (iv_lit (lo := 17) (hi := 17) (x := 17) rfl) c64 rfl
    refine sf_n (modulo_p (m := 4) (by decide) (by decide)) ?_
    have f66 : iv 0 3 (FX12_modulo (h 3 (a1.toNatClampNeg)) 4) := modulo_iv (m := 4) rfl
    refine sf_n (iv_in f66 rfl) ?_
    have I67 : IM z (hs h 13 (FX12_modulo (h 3 (a1.toNatClampNeg)) 4).toNatClampNeg (vp_nar .boolean 1)) := IMs I (k := 13) (i := (FX12_modulo (h 3 (a1.toNatClampNeg)) 4).toNatClampNeg) (v := (vp_nar .boolean 1)) (nar_z 1) rfl
    have I68 : IM z (hs (hs h 13 (FX12_modulo (h 3 (a1.toNatClampNeg)) 4).toNatClampNeg (vp_nar .boolean 1)) 0 31 4) := IMs I67 (k := 0) (i := 31) (v := 4) (iv_any 4) rfl
    refine sf_n (modulo_p (m := 4) (by decide) (by decide)) ?_
    have I69 : IM z (hs (hs (hs h 13 (FX12_modulo (h 3 (a1.toNatClampNeg)) 4).toNatClampNeg (vp_nar .boolean 1)) 0 31 4) 0 32 (FX12_modulo (h 3 (a1.toNatClampNeg)) 4)) := IMs I68 (k := 0) (i := 32) (v := (FX12_modulo (h 3 (a1.toNatClampNeg)) 4)) (iv_any (FX12_modulo (h 3 (a1.toNatClampNeg)) 4)) rfl
    exact ⟨trivial, wz_n (fun e => absurd (c64.symm.trans e) (by decide)) I69⟩
  exact ⟨trivial, wz_n c49 I⟩

-- X12_free
set_option maxRecDepth 100000 in
set_option maxHeartbeats 4000000 in
theorem SX12_free_12 {z : zT} : ∀ (q : Nat) (x2 : Int32) (h : ph_H), IM z h → iv 0 4 x2 → 4 - (x2).toInt < ((q : Nat) : Int) → PX12_free_12  q x2 h ∧ Qf h (FX12_free_12  q x2 h) := by
  intro q
  induction q with
  | zero =>
    intro x2 h I f_x2 mq
    exact mu_zu f_x2 mq rfl
  | succ q ih =>
    intro x2 h I f_x2 mq
    unfold PX12_free_12 FX12_free_12
    refine sf_if (fun c1 => ?_) (fun c1 => ?_)
    · have f2 : iv 4 4 x2 := iv_ler f_x2 (iv_lit (lo := 4) (hi := 4) (x := 4) rfl) c1 rfl
      exact ⟨trivial, ⟨by decide, by decide⟩, fun z => absurd (by decide) z⟩
    · have f3 : iv 0 3 x2 := iv_ltl f_x2 (iv_lit (lo := 4) (hi := 4) (x := 4) rfl) (nle c1) rfl
      have s4 := SX12_canGo (z := z) x2 h I f3
      refine sf_n s4.1 ?_
      refine sf_if (fun c5 => ?_) (fun c5 => ?_)
      · have f6 : iv 0 0 (FX12_canGo x2 h) := iv_eql s4.2.1 (iv_lit (lo := 0) (hi := 0) (x := 0) rfl) c5 rfl
        have f7 : iv 1 4 (x2 + 1) := iv_add f3 (iv_lit (lo := 1) (hi := 1) (x := 1) rfl) rfl
        exact ih (x2 + 1) h I (iv_w (c := 0) (d := 4) f7 rfl) (mu_up f3 mq rfl)
      · have f8 : iv 0 23 (h 12 (x2.toNatClampNeg)) := iv_and (iv_any _) (s4.2.2 c5) rfl
        have f9 : iv 1 1 (FX12_canGo x2 h) := iv_nel s4.2.1 c5 rfl
        exact ⟨trivial, (iv_w (c := (-1)) (d := 3) f3 rfl), fun _ => f8⟩
set_option maxRecDepth 100000 in
set_option maxHeartbeats 4000000 in
theorem SX12_free {z : zT} (a0 : Int32) (h : ph_H) (I : IM z h) (f_a0 : iv 0 3 a0) : PX12_free a0 h ∧ Qf h (FX12_free a0 h) := by
  unfold PX12_free FX12_free
  have s1 := SX12_canGo (z := z) a0 h I f_a0
  refine sf_n s1.1 ?_
  refine sf_if (fun c2 => ?_) (fun c2 => ?_)
  · have f3 : iv 0 0 (FX12_canGo a0 h) := iv_eql s1.2.1 (iv_lit (lo := 0) (hi := 0) (x := 0) rfl) c2 rfl
    exact SX12_free_12 2000 0 h I (iv_w (c := 0) (d := 4) (iv_lit (lo := 0) (hi := 0) (x := 0) rfl) rfl) (mu_0u (iv_lit (lo := 0) (hi := 0) (x := 0) rfl) rfl)
  · have f4 : iv 0 23 (h 12 (a0.toNatClampNeg)) := iv_and (iv_any _) (s1.2.2 c2) rfl
    have f5 : iv 1 1 (FX12_canGo a0 h) := iv_nel s1.2.1 c2 rfl
    exact ⟨trivial, (iv_w (c := (-1)) (d := 3) f_a0 rfl), fun _ => f4⟩

-- X12_keep
set_option maxRecDepth 100000 in
set_option maxHeartbeats 4000000 in
theorem SX12_keep_171 {z : zT} : ∀ (q : Nat) (x1 : Int32) (x2 : Int32) (h : ph_H), IM z h → iv 0 300 x1 → iv 0 192 x2 → 192 - (x2).toInt < ((q : Nat) : Int) → PX12_keep_171  q x1 x2 h ∧ IM z (FX12_keep_171  q x1 x2 h) := by
  intro q
  induction q with
  | zero =>
    intro x1 x2 h I f_x1 f_x2 mq
    exact mu_zu f_x2 mq rfl
  | succ q ih =>
    intro x1 x2 h I f_x1 f_x2 mq
    unfold PX12_keep_171 FX12_keep_171
    have f1 : iv 0 12 (h 0 18) := IMv I 0 _
    have f2 : iv 0 192 (16 * (h 0 18)) := iv_mul (c := 16) rfl f1 rfl
    refine sf_if (fun c3 => ?_) (fun c3 => ?_)
    · exact ⟨trivial, I⟩
    · have f4 : iv 0 191 x2 := iv_ltl f_x2 f2 (nle c3) rfl
      have f5 : iv 1 192 (16 * (h 0 18)) := iv_ltr f2 f_x2 (nle c3) rfl
      have f6 : iv 0 57600 (192 * x1) := iv_mul (c := 192) rfl f_x1 rfl
      have f7 : iv 0 57791 ((192 * x1) + x2) := iv_add f6 f4 rfl
      refine sf_n (iv_in f4 rfl) ?_
      refine sf_n (iv_in f7 rfl) ?_
      have I8 : IM z (hs h 28 ((192 * x1) + x2).toNatClampNeg (h 19 (x2.toNatClampNeg))) := IMs I (k := 28) (i := ((192 * x1) + x2).toNatClampNeg) (v := (h 19 (x2.toNatClampNeg))) (iv_any (h 19 (x2.toNatClampNeg))) rfl
      have f9 : iv 1 192 (x2 + 1) := iv_add f4 (iv_lit (lo := 1) (hi := 1) (x := 1) rfl) rfl
      exact ih x1 (x2 + 1) (hs h 28 ((192 * x1) + x2).toNatClampNeg (h 19 (x2.toNatClampNeg))) I8 f_x1 (iv_w (c := 0) (d := 192) f9 rfl) (mu_up f4 mq rfl)
set_option maxRecDepth 100000 in
set_option maxHeartbeats 4000000 in
theorem SX12_keep_104 {z : zT} : ∀ (q : Nat) (x1 : Int32) (x2 : Int32) (h : ph_H), IM z h → iv 0 300 x1 → iv 0 12 x2 → 12 - (x2).toInt < ((q : Nat) : Int) → PX12_keep_104  q x1 x2 h ∧ IM z (FX12_keep_104  q x1 x2 h) := by
  intro q
  induction q with
  | zero =>
    intro x1 x2 h I f_x1 f_x2 mq
    exact mu_zu f_x2 mq rfl
  | succ q ih =>
    intro x1 x2 h I f_x1 f_x2 mq
    unfold PX12_keep_104 FX12_keep_104
    have f1 : iv 0 12 (h 0 18) := IMv I 0 _
    refine sf_if (fun c2 => ?_) (fun c2 => ?_)
    · exact SX12_keep_171 2000 x1 0 h I f_x1 (iv_w (c := 0) (d := 192) (iv_lit (lo := 0) (hi := 0) (x := 0) rfl) rfl) (mu_0u (iv_lit (lo := 0) (hi := 0) (x := 0) rfl) rfl)
    · have f3 : iv 0 11 x2 := iv_ltl f_x2 f1 (nle c2) rfl
      have f4 : iv 1 12 (h 0 18) := iv_ltr f1 f_x2 (nle c2) rfl
      have f5 : iv 0 3600 (12 * x1) := iv_mul (c := 12) rfl f_x1 rfl
      have f6 : iv 0 3611 ((12 * x1) + x2) := iv_add f5 f3 rfl
      refine sf_n (iv_in f3 rfl) ?_
      refine sf_n (iv_in f6 rfl) ?_
      have I7 : IM z (hs h 25 ((12 * x1) + x2).toNatClampNeg (h 16 (x2.toNatClampNeg))) := IMs I (k := 25) (i := ((12 * x1) + x2).toNatClampNeg) (v := (h 16 (x2.toNatClampNeg))) (iv_any (h 16 (x2.toNatClampNeg))) rfl
      refine sf_n (iv_in f3 rfl) ?_
      refine sf_n (iv_in f6 rfl) ?_
      have I8 : IM z (hs (hs h 25 ((12 * x1) + x2).toNatClampNeg (h 16 (x2.toNatClampNeg))) 26 ((12 * x1) + x2).toNatClampNeg (h 17 (x2.toNatClampNeg))) := IMs I7 (k := 26) (i := ((12 * x1) + x2).toNatClampNeg) (v := (h 17 (x2.toNatClampNeg))) (iv_any (h 17 (x2.toNatClampNeg))) rfl
      refine sf_n (iv_in f3 rfl) ?_
      have f9 : iv 0 16 (h 18 (x2.toNatClampNeg)) := IMv I 18 _
      refine sf_n (iv_in f6 rfl) ?_
      have I10 : IM z (hs (hs (hs h 25 ((12 * x1) + x2).toNatClampNeg (h 16 (x2.toNatClampNeg))) 26 ((12 * x1) + x2).toNatClampNeg (h 17 (x2.toNatClampNeg))) 27 ((12 * x1) + x2).toNatClampNeg (h 18 (x2.toNatClampNeg))) := IMs I8 (k := 27) (i := ((12 * x1) + x2).toNatClampNeg) (v := (h 18 (x2.toNatClampNeg))) f9 rfl
      have f11 : iv 1 12 (x2 + 1) := iv_add f3 (iv_lit (lo := 1) (hi := 1) (x := 1) rfl) rfl
      exact ih x1 (x2 + 1) (hs (hs (hs h 25 ((12 * x1) + x2).toNatClampNeg (h 16 (x2.toNatClampNeg))) 26 ((12 * x1) + x2).toNatClampNeg (h 17 (x2.toNatClampNeg))) 27 ((12 * x1) + x2).toNatClampNeg (h 18 (x2.toNatClampNeg))) I10 f_x1 (iv_w (c := 0) (d := 12) f11 rfl) (mu_up f3 mq rfl)
set_option maxRecDepth 100000 in
set_option maxHeartbeats 4000000 in
theorem SX12_keep_50 {z : zT} : ∀ (q : Nat) (x1 : Int32) (x2 : Int32) (h : ph_H), IM z h → iv 0 300 x1 → iv 0 4 x2 → 4 - (x2).toInt < ((q : Nat) : Int) → PX12_keep_50  q x1 x2 h ∧ IM z (FX12_keep_50  q x1 x2 h) := by
  intro q
  induction q with
  | zero =>
    intro x1 x2 h I f_x1 f_x2 mq
    exact mu_zu f_x2 mq rfl
  | succ q ih =>
    intro x1 x2 h I f_x1 f_x2 mq
    unfold PX12_keep_50 FX12_keep_50
    refine sf_if (fun c1 => ?_) (fun c1 => ?_)
    · have f2 : iv 4 4 x2 := iv_ler f_x2 (iv_lit (lo := 4) (hi := 4) (x := 4) rfl) c1 rfl
      have f3 : iv 0 12 (h 0 18) := IMv I 0 _
      refine sf_n (iv_in f_x1 rfl) ?_
      have I4 : IM z (hs h 24 x1.toNatClampNeg (h 0 18)) := IMs I (k := 24) (i := x1.toNatClampNeg) (v := (h 0 18)) f3 rfl
      exact SX12_keep_104 2000 x1 0 (hs h 24 x1.toNatClampNeg (h 0 18)) I4 f_x1 (iv_w (c := 0) (d := 12) (iv_lit (lo := 0) (hi := 0) (x := 0) rfl) rfl) (mu_0u (iv_lit (lo := 0) (hi := 0) (x := 0) rfl) rfl)
    · have f5 : iv 0 3 x2 := iv_ltl f_x2 (iv_lit (lo := 4) (hi := 4) (x := 4) rfl) (nle c1) rfl
      have f6 : iv 0 1200 (4 * x1) := iv_mul (c := 4) rfl f_x1 rfl
      have f7 : iv 0 1203 ((4 * x1) + x2) := iv_add f6 f5 rfl
      refine sf_n (iv_in f5 rfl) ?_
      have f8 : iv 0 24 (h 12 (x2.toNatClampNeg)) := IMv I 12 _
      refine sf_n (iv_in f7 rfl) ?_
      have I9 : IM z (hs h 22 ((4 * x1) + x2).toNatClampNeg (h 12 (x2.toNatClampNeg))) := IMs I (k := 22) (i := ((4 * x1) + x2).toNatClampNeg) (v := (h 12 (x2.toNatClampNeg))) (iv_any (h 12 (x2.toNatClampNeg))) rfl
      have s10 := SX12_state (z := z) x2 (hs h 22 ((4 * x1) + x2).toNatClampNeg (h 12 (x2.toNatClampNeg))) I9 f5
      refine sf_n s10.1 ?_
      refine sf_n (iv_in f7 rfl) ?_
      have I11 : IM z (hs (hs h 22 ((4 * x1) + x2).toNatClampNeg (h 12 (x2.toNatClampNeg))) 23 ((4 * x1) + x2).toNatClampNeg (FX12_state x2 (hs h 22 ((4 * x1) + x2).toNatClampNeg (h 12 (x2.toNatClampNeg))))) := IMs I9 (k := 23) (i := ((4 * x1) + x2).toNatClampNeg) (v := (FX12_state x2 (hs h 22 ((4 * x1) + x2).toNatClampNeg (h 12 (x2.toNatClampNeg))))) (iv_any (FX12_state x2 (hs h 22 ((4 * x1) + x2).toNatClampNeg (h 12 (x2.toNatClampNeg))))) rfl
      have f12 : iv 1 4 (x2 + 1) := iv_add f5 (iv_lit (lo := 1) (hi := 1) (x := 1) rfl) rfl
      exact ih x1 (x2 + 1) (hs (hs h 22 ((4 * x1) + x2).toNatClampNeg (h 12 (x2.toNatClampNeg))) 23 ((4 * x1) + x2).toNatClampNeg (FX12_state x2 (hs h 22 ((4 * x1) + x2).toNatClampNeg (h 12 (x2.toNatClampNeg))))) I11 f_x1 (iv_w (c := 0) (d := 4) f12 rfl) (mu_up f5 mq rfl)
set_option maxRecDepth 100000 in
set_option maxHeartbeats 4000000 in
theorem SX12_keep_2 {z : zT} : ∀ (q : Nat) (x1 : Int32) (x2 : Int32) (h : ph_H), IM z h → iv 0 300 x1 → iv 0 28 x2 → 28 - (x2).toInt < ((q : Nat) : Int) → PX12_keep_2  q x1 x2 h ∧ IM z (FX12_keep_2  q x1 x2 h) := by
  intro q
  induction q with
  | zero =>
    intro x1 x2 h I f_x1 f_x2 mq
    exact mu_zu f_x2 mq rfl
  | succ q ih =>
    intro x1 x2 h I f_x1 f_x2 mq
    unfold PX12_keep_2 FX12_keep_2
    refine sf_if (fun c1 => ?_) (fun c1 => ?_)
    · have f2 : iv 28 28 x2 := iv_ler f_x2 (iv_lit (lo := 28) (hi := 28) (x := 28) rfl) c1 rfl
      exact SX12_keep_50 2000 x1 0 h I f_x1 (iv_w (c := 0) (d := 4) (iv_lit (lo := 0) (hi := 0) (x := 0) rfl) rfl) (mu_0u (iv_lit (lo := 0) (hi := 0) (x := 0) rfl) rfl)
    · have f3 : iv 0 27 x2 := iv_ltl f_x2 (iv_lit (lo := 28) (hi := 28) (x := 28) rfl) (nle c1) rfl
      have f4 : iv 0 8400 (28 * x1) := iv_mul (c := 28) rfl f_x1 rfl
      have f5 : iv 0 8427 ((28 * x1) + x2) := iv_add f4 f3 rfl
      refine sf_n (iv_in f3 rfl) ?_
      have f6 : iv 0 3 (h 10 (x2.toNatClampNeg)) := IMv I 10 _
      refine sf_n (iv_in f5 rfl) ?_
      have I7 : IM z (hs h 20 ((28 * x1) + x2).toNatClampNeg (h 10 (x2.toNatClampNeg))) := IMs I (k := 20) (i := ((28 * x1) + x2).toNatClampNeg) (v := (h 10 (x2.toNatClampNeg))) (iv_any (h 10 (x2.toNatClampNeg))) rfl
      refine sf_n (iv_in f3 rfl) ?_
      refine sf_n (iv_in f5 rfl) ?_
      have I8 : IM z (hs (hs h 20 ((28 * x1) + x2).toNatClampNeg (h 10 (x2.toNatClampNeg))) 21 ((28 * x1) + x2).toNatClampNeg (h 11 (x2.toNatClampNeg))) := IMs I7 (k := 21) (i := ((28 * x1) + x2).toNatClampNeg) (v := (h 11 (x2.toNatClampNeg))) (iv_any (h 11 (x2.toNatClampNeg))) rfl
      have f9 : iv 1 28 (x2 + 1) := iv_add f3 (iv_lit (lo := 1) (hi := 1) (x := 1) rfl) rfl
      exact ih x1 (x2 + 1) (hs (hs h 20 ((28 * x1) + x2).toNatClampNeg (h 10 (x2.toNatClampNeg))) 21 ((28 * x1) + x2).toNatClampNeg (h 11 (x2.toNatClampNeg))) I8 f_x1 (iv_w (c := 0) (d := 28) f9 rfl) (mu_up f3 mq rfl)
set_option maxRecDepth 100000 in
set_option maxHeartbeats 4000000 in
theorem SX12_keep {z : zT} (a0 : Int32) (h : ph_H) (I : IM z h) (f_a0 : iv 0 300 a0) : PX12_keep a0 h ∧ IM z (FX12_keep a0 h) := by
  unfold PX12_keep FX12_keep
  exact SX12_keep_2 2000 a0 0 h I f_a0 (iv_w (c := 0) (d := 28) (iv_lit (lo := 0) (hi := 0) (x := 0) rfl) rfl) (mu_0u (iv_lit (lo := 0) (hi := 0) (x := 0) rfl) rfl)

-- X12_ending
set_option maxRecDepth 100000 in
set_option maxHeartbeats 4000000 in
theorem SX12_ending_23 {z : zT} : ∀ (q : Nat) (x1 : Int32) (x2 : Int32) (h : ph_H), IM z h → iv 0 1 x1 → iv 0 4 x2 → 4 - (x2).toInt < ((q : Nat) : Int) → PX12_ending_23  q x1 x2 h ∧ iv 0 3 (FX12_ending_23  q x1 x2 h) := by
  intro q
  induction q with
  | zero =>
    intro x1 x2 h I f_x1 f_x2 mq
    exact mu_zu f_x2 mq rfl
  | succ q ih =>
    intro x1 x2 h I f_x1 f_x2 mq
    unfold PX12_ending_23 FX12_ending_23
    refine sf_if (fun c1 => ?_) (fun c1 => ?_)
    · have f2 : iv 4 4 x2 := iv_ler f_x2 (iv_lit (lo := 4) (hi := 4) (x := 4) rfl) c1 rfl
      refine sf_if (fun c3 => ?_) (fun c3 => ?_)
      · have f4 : iv 0 0 x1 := iv_eql f_x1 (iv_lit (lo := 0) (hi := 0) (x := 0) rfl) c3 rfl
        exact ⟨trivial, (iv_w (c := 0) (d := 3) (iv_lit (lo := 1) (hi := 1) (x := 1) rfl) rfl)⟩
      · have f5 : iv 1 1 x1 := iv_nel f_x1 c3 rfl
        exact ⟨trivial, (iv_w (c := 0) (d := 3) (iv_lit (lo := 0) (hi := 0) (x := 0) rfl) rfl)⟩
    · have f6 : iv 0 3 x2 := iv_ltl f_x2 (iv_lit (lo := 4) (hi := 4) (x := 4) rfl) (nle c1) rfl
      refine sf_if (fun c7 => ?_) (fun c7 => ?_)
      · have f8 : iv 0 0 x1 := iv_eql f_x1 (iv_lit (lo := 0) (hi := 0) (x := 0) rfl) c7 rfl
        unfold PX12_ending_56 FX12_ending_56
        unfold PX12_ending_57 FX12_ending_57
        have f9 : iv 1 4 (x2 + 1) := iv_add f6 (iv_lit (lo := 1) (hi := 1) (x := 1) rfl) rfl
        exact ih 0 (x2 + 1) h I (iv_w (c := 0) (d := 1) (iv_lit (lo := 0) (hi := 0) (x := 0) rfl) rfl) (iv_w (c := 0) (d := 4) f9 rfl) (mu_up f6 mq rfl)
      · have f10 : iv 1 1 x1 := iv_nel f_x1 c7 rfl
        refine sf_n (iv_in f6 rfl) ?_
        have f11 : iv 0 1 (h 13 (x2.toNatClampNeg)) := IMv I 13 _
        refine sf_if (fun c12 => ?_) (fun c12 => ?_)
        · have f13 : iv 0 0 (h 13 (x2.toNatClampNeg)) := iv_eql f11 (iv_lit (lo := 0) (hi := 0) (x := 0) rfl) c12 rfl
          unfold PX12_ending_52 FX12_ending_52
          unfold PX12_ending_57 FX12_ending_57
          have f14 : iv 1 4 (x2 + 1) := iv_add f6 (iv_lit (lo := 1) (hi := 1) (x := 1) rfl) rfl
          exact ih 1 (x2 + 1) h I (iv_w (c := 0) (d := 1) (iv_lit (lo := 1) (hi := 1) (x := 1) rfl) rfl) (iv_w (c := 0) (d := 4) f14 rfl) (mu_up f6 mq rfl)
        · have f15 : iv 1 1 (h 13 (x2.toNatClampNeg)) := iv_nel f11 c12 rfl
          refine sf_n (iv_in f6 rfl) ?_
          have f16 : iv 0 24 (h 12 (x2.toNatClampNeg)) := IMv I 12 _
          refine sf_if (fun c17 => ?_) (fun c17 => ?_)
          · have f18 : iv 24 24 (h 12 (x2.toNatClampNeg)) := iv_eql f16 (iv_lit (lo := 24) (hi := 24) (x := 24) rfl) c17 rfl
            unfold PX12_ending_52 FX12_ending_52
            unfold PX12_ending_57 FX12_ending_57
            have f19 : iv 1 4 (x2 + 1) := iv_add f6 (iv_lit (lo := 1) (hi := 1) (x := 1) rfl) rfl
            exact ih 1 (x2 + 1) h I (iv_w (c := 0) (d := 1) (iv_lit (lo := 1) (hi := 1) (x := 1) rfl) rfl) (iv_w (c := 0) (d := 4) f19 rfl) (mu_up f6 mq rfl)
          · have f20 : iv 0 23 (h 12 (x2.toNatClampNeg)) := iv_nel f16 c17 rfl
            unfold PX12_ending_56 FX12_ending_56
            unfold PX12_ending_57 FX12_ending_57
            have f21 : iv 1 4 (x2 + 1) := iv_add f6 (iv_lit (lo := 1) (hi := 1) (x := 1) rfl) rfl
            exact ih 0 (x2 + 1) h I (iv_w (c := 0) (d := 1) (iv_lit (lo := 0) (hi := 0) (x := 0) rfl) rfl) (iv_w (c := 0) (d := 4) f21 rfl) (mu_up f6 mq rfl)
set_option maxRecDepth 100000 in
set_option maxHeartbeats 4000000 in
theorem SX12_ending {z : zT} (h : ph_H) (I : IM z h) : PX12_ending h ∧ iv 0 3 (FX12_ending h) := by
  unfold PX12_ending FX12_ending
  refine sf_if (fun c1 => ?_) (fun c1 => ?_)
  · have f2 : iv (-2147483648) 0 (h 0 25) := iv_lel (iv_any (h 0 25)) (iv_lit (lo := 0) (hi := 0) (x := 0) rfl) c1 rfl
    have s3 := SX12_free (z := z) 0 h I (iv_w (c := 0) (d := 3) (iv_lit (lo := 0) (hi := 0) (x := 0) rfl) rfl)
    refine sf_n s3.1 ?_
    refine sf_if (fun c4 => ?_) (fun c4 => ?_)
    · have f5 : iv (-1) (-1) (FX12_free 0 h) := iv_ltl s3.2.1 (iv_lit (lo := 0) (hi := 0) (x := 0) rfl) c4 rfl
      exact SX12_ending_23 2000 1 0 h I (iv_w (c := 0) (d := 1) (iv_lit (lo := 1) (hi := 1) (x := 1) rfl) rfl) (iv_w (c := 0) (d := 4) (iv_lit (lo := 0) (hi := 0) (x := 0) rfl) rfl) (mu_0u (iv_lit (lo := 0) (hi := 0) (x := 0) rfl) rfl)
    · have f6 : iv 0 23 (h 12 ((FX12_free 0 h).toNatClampNeg)) := iv_and (iv_any _) (s3.2.2 c4) rfl
      have f7 : iv 0 3 (FX12_free 0 h) := iv_ler s3.2.1 (iv_lit (lo := 0) (hi := 0) (x := 0) rfl) (nlt c4) rfl
      exact ⟨trivial, (iv_w (c := 0) (d := 3) (iv_lit (lo := 3) (hi := 3) (x := 3) rfl) rfl)⟩
  · have f8 : iv 1 2147483647 (h 0 25) := iv_ltr (iv_any (h 0 25)) (iv_lit (lo := 0) (hi := 0) (x := 0) rfl) (nle c1) rfl
    exact ⟨trivial, (iv_w (c := 0) (d := 3) (iv_lit (lo := 2) (hi := 2) (x := 2) rfl) rfl)⟩

-- X12_told
set_option maxRecDepth 100000 in
set_option maxHeartbeats 4000000 in
theorem SX12_told {z : zT} (a0 : Int32) (h : ph_H) (I : IM z h) : PX12_told a0 h ∧ Qi z (-2147483648) 2147483647 (FX12_told a0 h) := by
  unfold PX12_told FX12_told
  have I1 : IM z (hs h 0 0 0) := IMs I (k := 0) (i := 0) (v := 0) (iv_any 0) rfl
  have f2 : iv 0 1 (h 0 36) := IMv I 0 _
  refine sf_if (fun c3 => ?_) (fun c3 => ?_)
  · have f4 : iv 0 0 (h 0 36) := iv_eql f2 (iv_lit (lo := 0) (hi := 0) (x := 0) rfl) c3 rfl
    exact ⟨trivial, Qi_mk (iv_any (-2)) I1⟩
  · have f5 : iv 1 1 (h 0 36) := iv_nel f2 c3 rfl
    refine sf_if (fun c6 => ?_) (fun c6 => ?_)
    · have f7 : iv 0 0 a0 := iv_eql (iv_any a0) (iv_lit (lo := 0) (hi := 0) (x := 0) rfl) c6 rfl
      exact ⟨trivial, Qi_mk (iv_any (h 0 37)) I1⟩
    refine sf_if (fun c8 => ?_) (fun c8 => ?_)
    · have f9 : iv 1 1 a0 := iv_eql (iv_any a0) (iv_lit (lo := 1) (hi := 1) (x := 1) rfl) c8 rfl
      have f10 : iv 0 300 (h 0 38) := IMv I 0 _
      exact ⟨trivial, Qi_mk (iv_any (h 0 38)) I1⟩
    refine sf_if (fun c11 => ?_) (fun c11 => ?_)
    · have f12 : iv 2 2 a0 := iv_eql (iv_any a0) (iv_lit (lo := 2) (hi := 2) (x := 2) rfl) c11 rfl
      exact ⟨trivial, Qi_mk (iv_any (h 0 39)) I1⟩
    refine sf_if (fun c13 => ?_) (fun c13 => ?_)
    · have f14 : iv 3 3 a0 := iv_eql (iv_any a0) (iv_lit (lo := 3) (hi := 3) (x := 3) rfl) c13 rfl
      exact ⟨trivial, Qi_mk (iv_any (h 0 40)) I1⟩
    refine sf_if (fun c15 => ?_) (fun c15 => ?_)
    · have f16 : iv 4 4 a0 := iv_eql (iv_any a0) (iv_lit (lo := 4) (hi := 4) (x := 4) rfl) c15 rfl
      have f17 : iv 0 300 (h 0 38) := IMv I 0 _
      refine sf_n (iv_in f17 rfl) ?_
      have f18 : iv 0 12 (h 24 ((h 0 38).toNatClampNeg)) := IMv I 24 _
      exact ⟨trivial, Qi_mk (iv_any (h 24 ((h 0 38).toNatClampNeg))) I1⟩
    refine sf_if (fun c19 => ?_) (fun c19 => ?_)
    · have f20 : iv 5 5 a0 := iv_eql (iv_any a0) (iv_lit (lo := 5) (hi := 5) (x := 5) rfl) c19 rfl
      have f21 : iv 0 300 (h 0 60) := IMv I 0 _
      exact ⟨trivial, Qi_mk (iv_any (h 0 60)) I1⟩
    refine sf_if (fun c22 => ?_) (fun c22 => ?_)
    · have f23 : iv 6 6 a0 := iv_eql (iv_any a0) (iv_lit (lo := 6) (hi := 6) (x := 6) rfl) c22 rfl
      have f24 : iv 0 30 (h 0 41) := IMv I 0 _
      exact ⟨trivial, Qi_mk (iv_any (h 0 41)) I1⟩
    refine sf_if (fun c25 => ?_) (fun c25 => ?_)
    · have f26 : iv 7 7 a0 := iv_eql (iv_any a0) (iv_lit (lo := 7) (hi := 7) (x := 7) rfl) c25 rfl
      have f27 : iv 0 300 (h 0 60) := IMv I 0 _
      have f28 : iv 0 900 (3 * (h 0 60)) := iv_mul (c := 3) rfl f27 rfl
      have f29 : iv 0 30 (h 0 41) := IMv I 0 _
      have f30 : iv 0 120 (4 * (h 0 41)) := iv_mul (c := 4) rfl f29 rfl
      have f31 : iv 0 1020 ((3 * (h 0 60)) + (4 * (h 0 41))) := iv_add f28 f30 rfl
      exact ⟨trivial, Qi_mk (iv_any ((3 * (h 0 60)) + (4 * (h 0 41)))) I1⟩
    exact ⟨trivial, Qi_mk (iv_any (-1)) I1⟩

-- X12_change
set_option maxRecDepth 100000 in
set_option maxHeartbeats 4000000 in
theorem SX12_change {z : zT} (a0 : Int32) (a1 : Int32) (h : ph_H) (I : IM z h) : PX12_change a0 a1 h ∧ Qi z (-2147483648) 2147483647 (FX12_change a0 a1 h) := by
  unfold PX12_change FX12_change
  have I1 : IM z (hs h 0 0 0) := IMs I (k := 0) (i := 0) (v := 0) (iv_any 0) rfl
  have f2 : iv 0 1 (h 0 36) := IMv I 0 _
  refine sf_if (fun c3 => ?_) (fun c3 => ?_)
  · have f4 : iv 0 0 (h 0 36) := iv_eql f2 (iv_lit (lo := 0) (hi := 0) (x := 0) rfl) c3 rfl
    exact ⟨trivial, Qi_mk (iv_any (-1)) I1⟩
  · have f5 : iv 1 1 (h 0 36) := iv_nel f2 c3 rfl
    refine sf_if (fun c6 => ?_) (fun c6 => ?_)
    · have f7 : iv (-2147483648) (-1) a0 := iv_ltl (iv_any a0) (iv_lit (lo := 0) (hi := 0) (x := 0) rfl) c6 rfl
      unfold PX12_change_36 FX12_change_36
      exact ⟨trivial, Qi_mk (iv_any (-1)) I1⟩
    · have f8 : iv 0 2147483647 a0 := iv_ler (iv_any a0) (iv_lit (lo := 0) (hi := 0) (x := 0) rfl) (nlt c6) rfl
      have f9 : iv 0 300 (h 0 60) := IMv I 0 _
      refine sf_if (fun c10 => ?_) (fun c10 => ?_)
      · unfold PX12_change_36 FX12_change_36
        exact ⟨trivial, Qi_mk (iv_any (-1)) I1⟩
      · have f11 : iv 0 299 a0 := iv_ltl f8 f9 (nle c10) rfl
        have f12 : iv 1 300 (h 0 60) := iv_ltr f9 f8 (nle c10) rfl
        refine sf_n isIn_p ?_
        refine sf_if (fun c13 => ?_) (fun c13 => ?_)
        · have f14 : iv 0 0 (FX12_isIn a1.toInt64 0 1) := iv_eql (isIn_b (x := a1.toInt64) (l := 0) (u := 1)) (iv_lit (lo := 0) (hi := 0) (x := 0) rfl) c13 rfl
          unfold PX12_change_36 FX12_change_36
          exact ⟨trivial, Qi_mk (iv_any (-1)) I1⟩
        · have f15 : iv 0 1 a1 := isIn_iv (iv_any a1) (lw_lit (lo := 0) (hi := 0) (x := 0) rfl) (lw_lit (lo := 1) (hi := 1) (x := 1) rfl) c13 rfl
          have f16 : iv 1 1 (FX12_isIn a1.toInt64 0 1) := iv_nel (isIn_b (x := a1.toInt64) (l := 0) (u := 1)) c13 rfl
          refine sf_if (fun c17 => ?_) (fun c17 => ?_)
          · have f18 : iv 0 0 a1 := iv_eql f15 (iv_lit (lo := 0) (hi := 0) (x := 0) rfl) c17 rfl
            refine sf_n (iv_in f11 rfl) ?_
            exact ⟨trivial, Qi_mk (iv_any (h 37 (a0.toNatClampNeg))) I1⟩
          · have f19 : iv 1 1 a1 := iv_nel f15 c17 rfl
            refine sf_n (iv_in f11 rfl) ?_
            have f20 : iv 0 3 (h 38 (a0.toNatClampNeg)) := IMv I 38 _
            exact ⟨trivial, Qi_mk (iv_any (h 38 (a0.toNatClampNeg))) I1⟩

-- X12_step_
set_option maxRecDepth 100000 in
set_option maxHeartbeats 4000000 in
theorem SX12_step_ {z : zT} (a0 : Int32) (a1 : Int32) (h : ph_H) (I : IM z h) : PX12_step_ a0 a1 h ∧ Qi z (-2147483648) 2147483647 (FX12_step_ a0 a1 h) := by
  unfold PX12_step_ FX12_step_
  have I1 : IM z (hs h 0 0 0) := IMs I (k := 0) (i := 0) (v := 0) (iv_any 0) rfl
  have f2 : iv 0 1 (h 0 36) := IMv I 0 _
  refine sf_if (fun c3 => ?_) (fun c3 => ?_)
  · have f4 : iv 0 0 (h 0 36) := iv_eql f2 (iv_lit (lo := 0) (hi := 0) (x := 0) rfl) c3 rfl
    exact ⟨trivial, Qi_mk (iv_any (-1)) I1⟩
  · have f5 : iv 1 1 (h 0 36) := iv_nel f2 c3 rfl
    have f6 : iv 0 300 (h 0 38) := IMv I 0 _
    refine sf_n isIn_p ?_
    refine sf_if (fun c7 => ?_) (fun c7 => ?_)
    · have f8 : iv 0 0 (FX12_isIn a0.toInt64 1 ((h 0 38).toInt64)) := iv_eql (isIn_b (x := a0.toInt64) (l := 1) (u := (h 0 38).toInt64)) (iv_lit (lo := 0) (hi := 0) (x := 0) rfl) c7 rfl
      exact ⟨trivial, Qi_mk (iv_any (-1)) I1⟩
    · have f9 : iv 1 300 a0 := isIn_iv (iv_any a0) (lw_lit (lo := 1) (hi := 1) (x := 1) rfl) (lw_of f6) c7 rfl
      have f10 : iv 1 1 (FX12_isIn a0.toInt64 1 ((h 0 38).toInt64)) := iv_nel (isIn_b (x := a0.toInt64) (l := 1) (u := (h 0 38).toInt64)) c7 rfl
      refine sf_if (fun c11 => ?_) (fun c11 => ?_)
      · have f12 : iv 0 0 a1 := iv_eql (iv_any a1) (iv_lit (lo := 0) (hi := 0) (x := 0) rfl) c11 rfl
        refine sf_n (iv_in f9 rfl) ?_
        exact ⟨trivial, Qi_mk (iv_any (h 29 (a0.toNatClampNeg))) I1⟩
      refine sf_if (fun c13 => ?_) (fun c13 => ?_)
      · have f14 : iv 1 1 a1 := iv_eql (iv_any a1) (iv_lit (lo := 1) (hi := 1) (x := 1) rfl) c13 rfl
        refine sf_n (iv_in f9 rfl) ?_
        exact ⟨trivial, Qi_mk (iv_any (h 30 (a0.toNatClampNeg))) I1⟩
      refine sf_if (fun c15 => ?_) (fun c15 => ?_)
      · have f16 : iv 2 2 a1 := iv_eql (iv_any a1) (iv_lit (lo := 2) (hi := 2) (x := 2) rfl) c15 rfl
        refine sf_n (iv_in f9 rfl) ?_
        exact ⟨trivial, Qi_mk (iv_any (h 31 (a0.toNatClampNeg))) I1⟩
      refine sf_if (fun c17 => ?_) (fun c17 => ?_)
      · have f18 : iv 3 3 a1 := iv_eql (iv_any a1) (iv_lit (lo := 3) (hi := 3) (x := 3) rfl) c17 rfl
        refine sf_n (iv_in f9 rfl) ?_
        exact ⟨trivial, Qi_mk (iv_any (h 32 (a0.toNatClampNeg))) I1⟩
      refine sf_if (fun c19 => ?_) (fun c19 => ?_)
      · have f20 : iv 4 4 a1 := iv_eql (iv_any a1) (iv_lit (lo := 4) (hi := 4) (x := 4) rfl) c19 rfl
        refine sf_n (iv_in f9 rfl) ?_
        exact ⟨trivial, Qi_mk (iv_any (h 33 (a0.toNatClampNeg))) I1⟩
      refine sf_if (fun c21 => ?_) (fun c21 => ?_)
      · have f22 : iv 5 5 a1 := iv_eql (iv_any a1) (iv_lit (lo := 5) (hi := 5) (x := 5) rfl) c21 rfl
        refine sf_n (iv_in f9 rfl) ?_
        exact ⟨trivial, Qi_mk (iv_any (h 34 (a0.toNatClampNeg))) I1⟩
      exact ⟨trivial, Qi_mk (iv_any (-1)) I1⟩

-- X12_toldThread
set_option maxRecDepth 100000 in
set_option maxHeartbeats 4000000 in
theorem SX12_toldThread_5 {z : zT} : ∀ (q : Nat) (x1 : Int32) (x2 : Int32) (x3 : Int32) (x4 : Int32) (h : ph_H), IM z h → iv 0 300 x1 → iv 0 3 x3 → iv 0 300 x4 → 300 - (x4).toInt < ((q : Nat) : Int) → PX12_toldThread_5  q x1 x2 x3 x4 h ∧ iv 0 3 (FX12_toldThread_5  q x1 x2 x3 x4 h) := by
  intro q
  induction q with
  | zero =>
    intro x1 x2 x3 x4 h I f_x1 f_x3 f_x4 mq
    exact mu_zu f_x4 mq rfl
  | succ q ih =>
    intro x1 x2 x3 x4 h I f_x1 f_x3 f_x4 mq
    unfold PX12_toldThread_5 FX12_toldThread_5
    refine sf_if (fun c1 => ?_) (fun c1 => ?_)
    · exact ⟨trivial, f_x3⟩
    · have f2 : iv 0 299 x4 := iv_ltl f_x4 f_x1 (nle c1) rfl
      have f3 : iv 1 300 x1 := iv_ltr f_x1 f_x4 (nle c1) rfl
      refine sf_n (iv_in f2 rfl) ?_
      refine sf_if (fun c4 => ?_) (fun c4 => ?_)
      · unfold PX12_toldThread_33 FX12_toldThread_33
        have f5 : iv 1 300 (x4 + 1) := iv_add f2 (iv_lit (lo := 1) (hi := 1) (x := 1) rfl) rfl
        exact ih x1 x2 x3 (x4 + 1) h I (iv_w (c := 0) (d := 300) f3 rfl) f_x3 (iv_w (c := 0) (d := 300) f5 rfl) (mu_up f2 mq rfl)
      · have f6 : iv (-2147483648) 2147483646 (h 37 (x4.toNatClampNeg)) := iv_ltl (iv_any (h 37 (x4.toNatClampNeg))) (iv_any x2) (nle c4) rfl
        have f7 : iv (-2147483647) 2147483647 x2 := iv_ltr (iv_any x2) (iv_any (h 37 (x4.toNatClampNeg))) (nle c4) rfl
        refine sf_n (iv_in f2 rfl) ?_
        have f8 : iv 0 3 (h 38 (x4.toNatClampNeg)) := IMv I 38 _
        unfold PX12_toldThread_33 FX12_toldThread_33
        have f9 : iv 1 300 (x4 + 1) := iv_add f2 (iv_lit (lo := 1) (hi := 1) (x := 1) rfl) rfl
        exact ih x1 x2 (h 38 (x4.toNatClampNeg)) (x4 + 1) h I (iv_w (c := 0) (d := 300) f3 rfl) f8 (iv_w (c := 0) (d := 300) f9 rfl) (mu_up f2 mq rfl)
set_option maxRecDepth 100000 in
set_option maxHeartbeats 4000000 in
theorem SX12_toldThread {z : zT} (a0 : Int32) (a1 : Int32) (h : ph_H) (I : IM z h) (f_a0 : iv 0 300 a0) : PX12_toldThread a0 a1 h ∧ iv 0 3 (FX12_toldThread a0 a1 h) := by
  unfold PX12_toldThread FX12_toldThread
  exact SX12_toldThread_5 2000 a0 a1 0 0 h I f_a0 (iv_w (c := 0) (d := 3) (iv_lit (lo := 0) (hi := 0) (x := 0) rfl) rfl) (iv_w (c := 0) (d := 300) (iv_lit (lo := 0) (hi := 0) (x := 0) rfl) rfl) (mu_0u (iv_lit (lo := 0) (hi := 0) (x := 0) rfl) rfl)

-- X12_ended
set_option maxRecDepth 100000 in
set_option maxHeartbeats 4000000 in
theorem SX12_ended {z : zT} (h : ph_H) (I : IM z h) : PX12_ended h ∧ Qi z (-2147483648) 2147483647 (FX12_ended h) := by
  unfold PX12_ended FX12_ended
  have I1 : IM z (hs h 0 0 0) := IMs I (k := 0) (i := 0) (v := 0) (iv_any 0) rfl
  exact ⟨trivial, Qi_mk (iv_any (h 0 66)) I1⟩

-- X12_to
set_option maxRecDepth 100000 in
set_option maxHeartbeats 4000000 in
theorem SX12_to {z : zT} (a0 : Int32) (h : ph_H) (I : IM z h) : PX12_to a0 h ∧ Qi z (-2) 300 (FX12_to a0 h) := by
  unfold PX12_to FX12_to
  have I1 : IM z (hs h 0 0 0) := IMs I (k := 0) (i := 0) (v := 0) (iv_any 0) rfl
  have f2 : iv 0 1 (h 0 36) := IMv I 0 _
  refine sf_if (fun c3 => ?_) (fun c3 => ?_)
  · have f4 : iv 0 0 (h 0 36) := iv_eql f2 (iv_lit (lo := 0) (hi := 0) (x := 0) rfl) c3 rfl
    exact ⟨trivial, Qi_mk (iv_w (c := (-2)) (d := 300) (iv_lit (lo := (-2)) (hi := (-2)) (x := (-2)) rfl) rfl) I1⟩
  · have f5 : iv 1 1 (h 0 36) := iv_nel f2 c3 rfl
    have f6 : iv 0 300 (h 0 38) := IMv I 0 _
    refine sf_n isIn_p ?_
    refine sf_if (fun c7 => ?_) (fun c7 => ?_)
    · have f8 : iv 0 0 (FX12_isIn a0.toInt64 0 ((h 0 38).toInt64)) := iv_eql (isIn_b (x := a0.toInt64) (l := 0) (u := (h 0 38).toInt64)) (iv_lit (lo := 0) (hi := 0) (x := 0) rfl) c7 rfl
      exact ⟨trivial, Qi_mk (iv_w (c := (-2)) (d := 300) (iv_lit (lo := (-1)) (hi := (-1)) (x := (-1)) rfl) rfl) I1⟩
    · have f9 : iv 0 300 a0 := isIn_iv (iv_any a0) (lw_lit (lo := 0) (hi := 0) (x := 0) rfl) (lw_of f6) c7 rfl
      have f10 : iv 1 1 (FX12_isIn a0.toInt64 0 ((h 0 38).toInt64)) := iv_nel (isIn_b (x := a0.toInt64) (l := 0) (u := (h 0 38).toInt64)) c7 rfl
      have I11 : IM z (hs (hs h 0 0 0) 0 42 a0) := IMs I1 (k := 0) (i := 42) (v := a0) f9 rfl
      exact ⟨trivial, Qi_mk (iv_w (c := (-2)) (d := 300) f9 rfl) I11⟩

-- X12_back
set_option maxRecDepth 100000 in
set_option maxHeartbeats 4000000 in
theorem SX12_back {z : zT} (a0 : Int32) (h : ph_H) (I : IM z h) : PX12_back a0 h ∧ Qi z (-2) 300 (FX12_back a0 h) := by
  unfold PX12_back FX12_back
  have I1 : IM z (hs h 0 0 0) := IMs I (k := 0) (i := 0) (v := 0) (iv_any 0) rfl
  have f2 : iv 0 1 (h 0 36) := IMv I 0 _
  refine sf_if (fun c3 => ?_) (fun c3 => ?_)
  · have f4 : iv 0 0 (h 0 36) := iv_eql f2 (iv_lit (lo := 0) (hi := 0) (x := 0) rfl) c3 rfl
    exact ⟨trivial, Qi_mk (iv_w (c := (-2)) (d := 300) (iv_lit (lo := (-2)) (hi := (-2)) (x := (-2)) rfl) rfl) I1⟩
  · have f5 : iv 1 1 (h 0 36) := iv_nel f2 c3 rfl
    refine sf_if (fun c6 => ?_) (fun c6 => ?_)
    · have f7 : iv (-2147483648) (-1) a0 := iv_ltl (iv_any a0) (iv_lit (lo := 0) (hi := 0) (x := 0) rfl) c6 rfl
      exact ⟨trivial, Qi_mk (iv_w (c := (-2)) (d := 300) (iv_lit (lo := (-1)) (hi := (-1)) (x := (-1)) rfl) rfl) I1⟩
    · have f8 : iv 0 2147483647 a0 := iv_ler (iv_any a0) (iv_lit (lo := 0) (hi := 0) (x := 0) rfl) (nlt c6) rfl
      have f9 : iv 0 300 (h 0 42) := IMv I 0 _
      refine sf_if (fun c10 => ?_) (fun c10 => ?_)
      · have f11 : iv 0 300 a0 := iv_lel f8 f9 c10 rfl
        have f12 : iv 0 300 ((h 0 42) - a0) := iv_subo f9 f11 c10 rfl
        have I13 : IM z (hs (hs h 0 0 0) 0 42 ((h 0 42) - a0)) := IMs I1 (k := 0) (i := 42) (v := ((h 0 42) - a0)) f12 rfl
        exact ⟨trivial, Qi_mk (iv_w (c := (-2)) (d := 300) f12 rfl) I13⟩
      · have f14 : iv 1 2147483647 a0 := iv_ltr f8 f9 (nle c10) rfl
        exact ⟨trivial, Qi_mk (iv_w (c := (-2)) (d := 300) (iv_lit (lo := (-1)) (hi := (-1)) (x := (-1)) rfl) rfl) I1⟩

-- X12_value
set_option maxRecDepth 100000 in
set_option maxHeartbeats 4000000 in
theorem SX12_value {z : zT} (a0 : Int32) (a1 : Int32) (a2 : Int32) (h : ph_H) (I : IM z h) : PX12_value a0 a1 a2 h ∧ Qi z (-2147483648) 2147483647 (FX12_value a0 a1 a2 h) := by
  unfold PX12_value FX12_value
  refine sf_n isIn_p ?_
  refine sf_if (fun c1 => ?_) (fun c1 => ?_)
  · have f2 : iv 0 0 (FX12_isIn a2.toInt64 0 1) := iv_eql (isIn_b (x := a2.toInt64) (l := 0) (u := 1)) (iv_lit (lo := 0) (hi := 0) (x := 0) rfl) c1 rfl
    unfold PX12_value_58 FX12_value_58
    unfold PX12_value_59 FX12_value_59
    have f3 : iv 0 1 (h 0 36) := IMv I 0 _
    refine sf_if (fun c4 => ?_) (fun c4 => ?_)
    · have f5 : iv 0 0 (h 0 36) := iv_eql f3 (iv_lit (lo := 0) (hi := 0) (x := 0) rfl) c4 rfl
      unfold PX12_value_83 FX12_value_83
      have I6 : IM z (hs h 0 0 2) := IMs I (k := 0) (i := 0) (v := 2) (iv_any 2) rfl
      refine sf_if (fun c7 => ?_) (fun c7 => ?_)
      · have f8 : iv 2 0 2 := iv_lel (iv_lit (lo := 2) (hi := 2) (x := 2) rfl) (iv_lit (lo := 0) (hi := 0) (x := 0) rfl) c7 rfl
        exact iv_no f8 rfl
      · exact ⟨trivial, Qi_mk (iv_any 0) I6⟩
    · have f9 : iv 1 1 (h 0 36) := iv_nel f3 c4 rfl
      refine sf_if (fun c10 => ?_) (fun c10 => ?_)
      · unfold PX12_value_83 FX12_value_83
        have I11 : IM z (hs h 0 0 1) := IMs I (k := 0) (i := 0) (v := 1) (iv_any 1) rfl
        refine sf_if (fun c12 => ?_) (fun c12 => ?_)
        · have f13 : iv 1 0 1 := iv_lel (iv_lit (lo := 1) (hi := 1) (x := 1) rfl) (iv_lit (lo := 0) (hi := 0) (x := 0) rfl) c12 rfl
          exact iv_no f13 rfl
        · exact ⟨trivial, Qi_mk (iv_any 0) I11⟩
      · exact absurd rfl c10
  · have f14 : iv 0 1 a2 := isIn_iv (iv_any a2) (lw_lit (lo := 0) (hi := 0) (x := 0) rfl) (lw_lit (lo := 1) (hi := 1) (x := 1) rfl) c1 rfl
    have f15 : iv 1 1 (FX12_isIn a2.toInt64 0 1) := iv_nel (isIn_b (x := a2.toInt64) (l := 0) (u := 1)) c1 rfl
    refine sf_if (fun c16 => ?_) (fun c16 => ?_)
    · have f17 : iv (-1) (-1) a0 := iv_eql (iv_any a0) (iv_lit (lo := (-1)) (hi := (-1)) (x := (-1)) rfl) c16 rfl
      refine sf_n isIn_p ?_
      refine sf_if (fun c18 => ?_) (fun c18 => ?_)
      · have f19 : iv 0 0 (FX12_isIn a1.toInt64 0 11) := iv_eql (isIn_b (x := a1.toInt64) (l := 0) (u := 11)) (iv_lit (lo := 0) (hi := 0) (x := 0) rfl) c18 rfl
        unfold PX12_value_58 FX12_value_58
        unfold PX12_value_59 FX12_value_59
        have f20 : iv 0 1 (h 0 36) := IMv I 0 _
        refine sf_if (fun c21 => ?_) (fun c21 => ?_)
        · have f22 : iv 0 0 (h 0 36) := iv_eql f20 (iv_lit (lo := 0) (hi := 0) (x := 0) rfl) c21 rfl
          unfold PX12_value_83 FX12_value_83
          have I23 : IM z (hs h 0 0 2) := IMs I (k := 0) (i := 0) (v := 2) (iv_any 2) rfl
          refine sf_if (fun c24 => ?_) (fun c24 => ?_)
          · have f25 : iv 2 0 2 := iv_lel (iv_lit (lo := 2) (hi := 2) (x := 2) rfl) (iv_lit (lo := 0) (hi := 0) (x := 0) rfl) c24 rfl
            exact iv_no f25 rfl
          · exact ⟨trivial, Qi_mk (iv_any 0) I23⟩
        · have f26 : iv 1 1 (h 0 36) := iv_nel f20 c21 rfl
          refine sf_if (fun c27 => ?_) (fun c27 => ?_)
          · unfold PX12_value_83 FX12_value_83
            have I28 : IM z (hs h 0 0 1) := IMs I (k := 0) (i := 0) (v := 1) (iv_any 1) rfl
            refine sf_if (fun c29 => ?_) (fun c29 => ?_)
            · have f30 : iv 1 0 1 := iv_lel (iv_lit (lo := 1) (hi := 1) (x := 1) rfl) (iv_lit (lo := 0) (hi := 0) (x := 0) rfl) c29 rfl
              exact iv_no f30 rfl
            · exact ⟨trivial, Qi_mk (iv_any 0) I28⟩
          · exact absurd rfl c27
      · have f31 : iv 0 11 a1 := isIn_iv (iv_any a1) (lw_lit (lo := 0) (hi := 0) (x := 0) rfl) (lw_lit (lo := 11) (hi := 11) (x := 11) rfl) c18 rfl
        have f32 : iv 1 1 (FX12_isIn a1.toInt64 0 11) := iv_nel (isIn_b (x := a1.toInt64) (l := 0) (u := 11)) c18 rfl
        unfold PX12_value_54 FX12_value_54
        unfold PX12_value_59 FX12_value_59
        have f33 : iv 0 1 (h 0 36) := IMv I 0 _
        refine sf_if (fun c34 => ?_) (fun c34 => ?_)
        · have f35 : iv 0 0 (h 0 36) := iv_eql f33 (iv_lit (lo := 0) (hi := 0) (x := 0) rfl) c34 rfl
          unfold PX12_value_83 FX12_value_83
          have I36 : IM z (hs h 0 0 2) := IMs I (k := 0) (i := 0) (v := 2) (iv_any 2) rfl
          refine sf_if (fun c37 => ?_) (fun c37 => ?_)
          · have f38 : iv 2 0 2 := iv_lel (iv_lit (lo := 2) (hi := 2) (x := 2) rfl) (iv_lit (lo := 0) (hi := 0) (x := 0) rfl) c37 rfl
            exact iv_no f38 rfl
          · exact ⟨trivial, Qi_mk (iv_any 0) I36⟩
        · have f39 : iv 1 1 (h 0 36) := iv_nel f33 c34 rfl
          refine sf_if (fun c40 => ?_) (fun c40 => ?_)
          · have f41 : iv 1 0 1 := iv_eql (iv_lit (lo := 1) (hi := 1) (x := 1) rfl) (iv_lit (lo := 0) (hi := 0) (x := 0) rfl) c40 rfl
            exact iv_no f41 rfl
          · unfold PX12_value_83 FX12_value_83
            have I42 : IM z (hs h 0 0 0) := IMs I (k := 0) (i := 0) (v := 0) (iv_any 0) rfl
            refine sf_if (fun c43 => ?_) (fun c43 => ?_)
            · have f44 : iv 0 300 (h 0 42) := IMv I 0 _
              have f45 : iv 0 8400 (28 * (h 0 42)) := iv_mul (c := 28) rfl f44 rfl
              refine sf_if (fun c46 => ?_) (fun c46 => ?_)
              · unfold PX12_value_119 FX12_value_119
                have f47 : iv 0 8411 ((28 * (h 0 42)) + a1) := iv_add f45 f31 rfl
                refine sf_if (fun c48 => ?_) (fun c48 => ?_)
                · have f49 : iv 0 0 a2 := iv_eql f14 (iv_lit (lo := 0) (hi := 0) (x := 0) rfl) c48 rfl
                  refine sf_n (iv_in f47 rfl) ?_
                  exact ⟨trivial, Qi_mk (iv_any ((hs h 0 0 0) 20 (((28 * (h 0 42)) + a1).toNatClampNeg))) I42⟩
                · have f50 : iv 1 1 a2 := iv_nel f14 c48 rfl
                  refine sf_n (iv_in f47 rfl) ?_
                  exact ⟨trivial, Qi_mk (iv_any ((hs h 0 0 0) 21 (((28 * (h 0 42)) + a1).toNatClampNeg))) I42⟩
              · have f51 : iv (-1) (-2) a0 := iv_nel f17 c46 rfl
                exact iv_no f51 rfl
            · have f52 : iv 0 (-1) 0 := iv_ltl (iv_lit (lo := 0) (hi := 0) (x := 0) rfl) (iv_lit (lo := 0) (hi := 0) (x := 0) rfl) (nle c43) rfl
              exact iv_no f52 rfl
    · refine sf_n isIn_p ?_
      refine sf_if (fun c53 => ?_) (fun c53 => ?_)
      · have f54 : iv 0 0 (FX12_isIn a0.toInt64 0 3) := iv_eql (isIn_b (x := a0.toInt64) (l := 0) (u := 3)) (iv_lit (lo := 0) (hi := 0) (x := 0) rfl) c53 rfl
        unfold PX12_value_58 FX12_value_58
        unfold PX12_value_59 FX12_value_59
        have f55 : iv 0 1 (h 0 36) := IMv I 0 _
        refine sf_if (fun c56 => ?_) (fun c56 => ?_)
        · have f57 : iv 0 0 (h 0 36) := iv_eql f55 (iv_lit (lo := 0) (hi := 0) (x := 0) rfl) c56 rfl
          unfold PX12_value_83 FX12_value_83
          have I58 : IM z (hs h 0 0 2) := IMs I (k := 0) (i := 0) (v := 2) (iv_any 2) rfl
          refine sf_if (fun c59 => ?_) (fun c59 => ?_)
          · have f60 : iv 2 0 2 := iv_lel (iv_lit (lo := 2) (hi := 2) (x := 2) rfl) (iv_lit (lo := 0) (hi := 0) (x := 0) rfl) c59 rfl
            exact iv_no f60 rfl
          · exact ⟨trivial, Qi_mk (iv_any 0) I58⟩
        · have f61 : iv 1 1 (h 0 36) := iv_nel f55 c56 rfl
          refine sf_if (fun c62 => ?_) (fun c62 => ?_)
          · unfold PX12_value_83 FX12_value_83
            have I63 : IM z (hs h 0 0 1) := IMs I (k := 0) (i := 0) (v := 1) (iv_any 1) rfl
            refine sf_if (fun c64 => ?_) (fun c64 => ?_)
            · have f65 : iv 1 0 1 := iv_lel (iv_lit (lo := 1) (hi := 1) (x := 1) rfl) (iv_lit (lo := 0) (hi := 0) (x := 0) rfl) c64 rfl
              exact iv_no f65 rfl
            · exact ⟨trivial, Qi_mk (iv_any 0) I63⟩
          · exact absurd rfl c62
      · have f66 : iv 0 3 a0 := isIn_iv (iv_any a0) (lw_lit (lo := 0) (hi := 0) (x := 0) rfl) (lw_lit (lo := 3) (hi := 3) (x := 3) rfl) c53 rfl
        have f67 : iv 1 1 (FX12_isIn a0.toInt64 0 3) := iv_nel (isIn_b (x := a0.toInt64) (l := 0) (u := 3)) c53 rfl
        refine sf_n isIn_p ?_
        refine sf_if (fun c68 => ?_) (fun c68 => ?_)
        · have f69 : iv 0 0 (FX12_isIn a1.toInt64 0 3) := iv_eql (isIn_b (x := a1.toInt64) (l := 0) (u := 3)) (iv_lit (lo := 0) (hi := 0) (x := 0) rfl) c68 rfl
          unfold PX12_value_58 FX12_value_58
          unfold PX12_value_59 FX12_value_59
          have f70 : iv 0 1 (h 0 36) := IMv I 0 _
          refine sf_if (fun c71 => ?_) (fun c71 => ?_)
          · have f72 : iv 0 0 (h 0 36) := iv_eql f70 (iv_lit (lo := 0) (hi := 0) (x := 0) rfl) c71 rfl
            unfold PX12_value_83 FX12_value_83
            have I73 : IM z (hs h 0 0 2) := IMs I (k := 0) (i := 0) (v := 2) (iv_any 2) rfl
            refine sf_if (fun c74 => ?_) (fun c74 => ?_)
            · have f75 : iv 2 0 2 := iv_lel (iv_lit (lo := 2) (hi := 2) (x := 2) rfl) (iv_lit (lo := 0) (hi := 0) (x := 0) rfl) c74 rfl
              exact iv_no f75 rfl
            · exact ⟨trivial, Qi_mk (iv_any 0) I73⟩
          · have f76 : iv 1 1 (h 0 36) := iv_nel f70 c71 rfl
            refine sf_if (fun c77 => ?_) (fun c77 => ?_)
            · unfold PX12_value_83 FX12_value_83
              have I78 : IM z (hs h 0 0 1) := IMs I (k := 0) (i := 0) (v := 1) (iv_any 1) rfl
              refine sf_if (fun c79 => ?_) (fun c79 => ?_)
              · have f80 : iv 1 0 1 := iv_lel (iv_lit (lo := 1) (hi := 1) (x := 1) rfl) (iv_lit (lo := 0) (hi := 0) (x := 0) rfl) c79 rfl
                exact iv_no f80 rfl
              · exact ⟨trivial, Qi_mk (iv_any 0) I78⟩
            · exact absurd rfl c77
        · have f81 : iv 0 3 a1 := isIn_iv (iv_any a1) (lw_lit (lo := 0) (hi := 0) (x := 0) rfl) (lw_lit (lo := 3) (hi := 3) (x := 3) rfl) c68 rfl
          have f82 : iv 1 1 (FX12_isIn a1.toInt64 0 3) := iv_nel (isIn_b (x := a1.toInt64) (l := 0) (u := 3)) c68 rfl
          unfold PX12_value_54 FX12_value_54
          unfold PX12_value_59 FX12_value_59
          have f83 : iv 0 1 (h 0 36) := IMv I 0 _
          refine sf_if (fun c84 => ?_) (fun c84 => ?_)
          · have f85 : iv 0 0 (h 0 36) := iv_eql f83 (iv_lit (lo := 0) (hi := 0) (x := 0) rfl) c84 rfl
            unfold PX12_value_83 FX12_value_83
            have I86 : IM z (hs h 0 0 2) := IMs I (k := 0) (i := 0) (v := 2) (iv_any 2) rfl
            refine sf_if (fun c87 => ?_) (fun c87 => ?_)
            · have f88 : iv 2 0 2 := iv_lel (iv_lit (lo := 2) (hi := 2) (x := 2) rfl) (iv_lit (lo := 0) (hi := 0) (x := 0) rfl) c87 rfl
              exact iv_no f88 rfl
            · exact ⟨trivial, Qi_mk (iv_any 0) I86⟩
          · have f89 : iv 1 1 (h 0 36) := iv_nel f83 c84 rfl
            refine sf_if (fun c90 => ?_) (fun c90 => ?_)
            · have f91 : iv 1 0 1 := iv_eql (iv_lit (lo := 1) (hi := 1) (x := 1) rfl) (iv_lit (lo := 0) (hi := 0) (x := 0) rfl) c90 rfl
              exact iv_no f91 rfl
            · unfold PX12_value_83 FX12_value_83
              have I92 : IM z (hs h 0 0 0) := IMs I (k := 0) (i := 0) (v := 0) (iv_any 0) rfl
              refine sf_if (fun c93 => ?_) (fun c93 => ?_)
              · have f94 : iv 0 300 (h 0 42) := IMv I 0 _
                have f95 : iv 0 8400 (28 * (h 0 42)) := iv_mul (c := 28) rfl f94 rfl
                refine sf_if (fun c96 => ?_) (fun c96 => ?_)
                · have f97 : iv 0 (-1) a0 := iv_eql f66 (iv_lit (lo := (-1)) (hi := (-1)) (x := (-1)) rfl) c96 rfl
                  exact iv_no f97 rfl
                · have f98 : iv 0 12 (4 * a0) := iv_mul (c := 4) rfl f66 rfl
                  have f99 : iv 12 24 (12 + (4 * a0)) := iv_add (iv_lit (lo := 12) (hi := 12) (x := 12) rfl) f98 rfl
                  have f100 : iv 12 27 ((12 + (4 * a0)) + a1) := iv_add f99 f81 rfl
                  unfold PX12_value_119 FX12_value_119
                  have f101 : iv 12 8427 ((28 * (h 0 42)) + ((12 + (4 * a0)) + a1)) := iv_add f95 f100 rfl
                  refine sf_if (fun c102 => ?_) (fun c102 => ?_)
                  · have f103 : iv 0 0 a2 := iv_eql f14 (iv_lit (lo := 0) (hi := 0) (x := 0) rfl) c102 rfl
                    refine sf_n (iv_in f101 rfl) ?_
                    exact ⟨trivial, Qi_mk (iv_any ((hs h 0 0 0) 20 (((28 * (h 0 42)) + ((12 + (4 * a0)) + a1)).toNatClampNeg))) I92⟩
                  · have f104 : iv 1 1 a2 := iv_nel f14 c102 rfl
                    refine sf_n (iv_in f101 rfl) ?_
                    exact ⟨trivial, Qi_mk (iv_any ((hs h 0 0 0) 21 (((28 * (h 0 42)) + ((12 + (4 * a0)) + a1)).toNatClampNeg))) I92⟩
              · have f105 : iv 0 (-1) 0 := iv_ltl (iv_lit (lo := 0) (hi := 0) (x := 0) rfl) (iv_lit (lo := 0) (hi := 0) (x := 0) rfl) (nle c93) rfl
                exact iv_no f105 rfl

-- X12_isThing
set_option maxRecDepth 100000 in
set_option maxHeartbeats 4000000 in
theorem SX12_isThing {z : zT} (a0 : Int32) (h : ph_H) (I : IM z h) : PX12_isThing a0 h ∧ Qc 0 1 (fun r => ¬ r = 0 → iv 0 11 a0) (FX12_isThing a0 h) := by
  unfold PX12_isThing FX12_isThing
  have f1 : iv 0 1 (h 0 36) := IMv I 0 _
  refine sf_if (fun c2 => ?_) (fun c2 => ?_)
  · have f3 : iv 0 0 (h 0 36) := iv_eql f1 (iv_lit (lo := 0) (hi := 0) (x := 0) rfl) c2 rfl
    exact ⟨trivial, (iv_w (c := 0) (d := 1) (iv_lit (lo := 0) (hi := 0) (x := 0) rfl) rfl), fun z => absurd rfl z⟩
  · have f4 : iv 1 1 (h 0 36) := iv_nel f1 c2 rfl
    refine sf_if (fun c5 => ?_) (fun c5 => ?_)
    · have f6 : iv (-2147483648) (-1) a0 := iv_ltl (iv_any a0) (iv_lit (lo := 0) (hi := 0) (x := 0) rfl) c5 rfl
      exact ⟨trivial, (iv_w (c := 0) (d := 1) (iv_lit (lo := 0) (hi := 0) (x := 0) rfl) rfl), fun z => absurd rfl z⟩
    · have f7 : iv 0 2147483647 a0 := iv_ler (iv_any a0) (iv_lit (lo := 0) (hi := 0) (x := 0) rfl) (nlt c5) rfl
      have f8 : iv 0 300 (h 0 42) := IMv I 0 _
      refine sf_n (iv_in f8 rfl) ?_
      have f9 : iv 0 12 (h 24 ((h 0 42).toNatClampNeg)) := IMv I 24 _
      refine sf_if (fun c10 => ?_) (fun c10 => ?_)
      · exact ⟨trivial, (iv_w (c := 0) (d := 1) (iv_lit (lo := 0) (hi := 0) (x := 0) rfl) rfl), fun z => absurd rfl z⟩
      · have f11 : iv 0 11 a0 := iv_ltl f7 f9 (nle c10) rfl
        have f12 : iv 1 12 (h 24 ((h 0 42).toNatClampNeg)) := iv_ltr f9 f7 (nle c10) rfl
        exact ⟨trivial, (iv_w (c := 0) (d := 1) (iv_lit (lo := 1) (hi := 1) (x := 1) rfl) rfl), fun _ => f11⟩

-- X12_thing
set_option maxRecDepth 100000 in
set_option maxHeartbeats 4000000 in
theorem SX12_thing {z : zT} (a0 : Int32) (a1 : Int32) (h : ph_H) (I : IM z h) : PX12_thing a0 a1 h ∧ Qi z (-2147483648) 2147483647 (FX12_thing a0 a1 h) := by
  unfold PX12_thing FX12_thing
  have I1 : IM z (hs h 0 0 0) := IMs I (k := 0) (i := 0) (v := 0) (iv_any 0) rfl
  have f2 : iv 0 1 (h 0 36) := IMv I 0 _
  refine sf_if (fun c3 => ?_) (fun c3 => ?_)
  · have f4 : iv 0 0 (h 0 36) := iv_eql f2 (iv_lit (lo := 0) (hi := 0) (x := 0) rfl) c3 rfl
    exact ⟨trivial, Qi_mk (iv_any (-2)) I1⟩
  · have f5 : iv 1 1 (h 0 36) := iv_nel f2 c3 rfl
    have s6 := SX12_isThing (z := z) a0 (hs h 0 0 0) I1
    refine sf_n s6.1 ?_
    refine sf_if (fun c7 => ?_) (fun c7 => ?_)
    · have f8 : iv 0 0 (FX12_isThing a0 (hs h 0 0 0)) := iv_eql s6.2.1 (iv_lit (lo := 0) (hi := 0) (x := 0) rfl) c7 rfl
      exact ⟨trivial, Qi_mk (iv_any (-1)) I1⟩
    · have f9 : iv 0 11 a0 := iv_and (iv_any _) (s6.2.2 c7) rfl
      have f10 : iv 1 1 (FX12_isThing a0 (hs h 0 0 0)) := iv_nel s6.2.1 c7 rfl
      refine sf_n isIn_p ?_
      refine sf_if (fun c11 => ?_) (fun c11 => ?_)
      · have f12 : iv 0 0 (FX12_isIn a1.toInt64 0 1) := iv_eql (isIn_b (x := a1.toInt64) (l := 0) (u := 1)) (iv_lit (lo := 0) (hi := 0) (x := 0) rfl) c11 rfl
        exact ⟨trivial, Qi_mk (iv_any (-1)) I1⟩
      · have f13 : iv 0 1 a1 := isIn_iv (iv_any a1) (lw_lit (lo := 0) (hi := 0) (x := 0) rfl) (lw_lit (lo := 1) (hi := 1) (x := 1) rfl) c11 rfl
        have f14 : iv 1 1 (FX12_isIn a1.toInt64 0 1) := iv_nel (isIn_b (x := a1.toInt64) (l := 0) (u := 1)) c11 rfl
        have f15 : iv 0 300 (h 0 42) := IMv I 0 _
        have f16 : iv 0 3600 (12 * (h 0 42)) := iv_mul (c := 12) rfl f15 rfl
        have f17 : iv 0 3611 ((12 * (h 0 42)) + a0) := iv_add f16 f9 rfl
        refine sf_n (iv_in f17 rfl) ?_
        refine sf_n (iv_in f17 rfl) ?_
        refine sf_if (fun c18 => ?_) (fun c18 => ?_)
        · have f19 : iv 0 0 a1 := iv_eql f13 (iv_lit (lo := 0) (hi := 0) (x := 0) rfl) c18 rfl
          exact ⟨trivial, Qi_mk (iv_any (h 25 (((12 * (h 0 42)) + a0).toNatClampNeg))) I1⟩
        · have f20 : iv 1 1 a1 := iv_nel f13 c18 rfl
          refine sf_if (fun c21 => ?_) (fun c21 => ?_)
          · have f22 : iv 1 1 (h 25 (((12 * (h 0 42)) + a0).toNatClampNeg)) := iv_eql (iv_any (h 25 (((12 * (h 0 42)) + a0).toNatClampNeg))) (iv_lit (lo := 1) (hi := 1) (x := 1) rfl) c21 rfl
            refine sf_n (iv_in f17 rfl) ?_
            have f23 : iv 0 16 (h 27 (((12 * (h 0 42)) + a0).toNatClampNeg)) := IMv I 27 _
            exact ⟨trivial, Qi_mk (iv_any (h 27 (((12 * (h 0 42)) + a0).toNatClampNeg))) I1⟩
          · refine sf_if (fun c24 => ?_) (fun c24 => ?_)
            · have f25 : iv 0 2147483647 (h 26 (((12 * (h 0 42)) + a0).toNatClampNeg)) := iv_ler (iv_any (h 26 (((12 * (h 0 42)) + a0).toNatClampNeg))) (iv_lit (lo := 0) (hi := 0) (x := 0) rfl) c24 rfl
              exact ⟨trivial, Qi_mk (iv_any (h 26 (((12 * (h 0 42)) + a0).toNatClampNeg))) I1⟩
            · have f26 : iv (-2147483648) (-1) (h 26 (((12 * (h 0 42)) + a0).toNatClampNeg)) := iv_ltl (iv_any (h 26 (((12 * (h 0 42)) + a0).toNatClampNeg))) (iv_lit (lo := 0) (hi := 0) (x := 0) rfl) (nle c24) rfl
              exact ⟨trivial, Qi_mk (iv_any (-2)) I1⟩

-- X12_place
set_option maxRecDepth 100000 in
set_option maxHeartbeats 4000000 in
theorem SX12_place {z : zT} (a0 : Int32) (a1 : Int32) (h : ph_H) (I : IM z h) : PX12_place a0 a1 h ∧ Qi z (-2147483648) 2147483647 (FX12_place a0 a1 h) := by
  unfold PX12_place FX12_place
  have s1 := SX12_isThing (z := z) a0 h I
  refine sf_n s1.1 ?_
  refine sf_if (fun c2 => ?_) (fun c2 => ?_)
  · have f3 : iv 0 0 (FX12_isThing a0 h) := iv_eql s1.2.1 (iv_lit (lo := 0) (hi := 0) (x := 0) rfl) c2 rfl
    unfold PX12_place_56 FX12_place_56
    unfold PX12_place_57 FX12_place_57
    have f4 : iv 0 1 (h 0 36) := IMv I 0 _
    refine sf_if (fun c5 => ?_) (fun c5 => ?_)
    · have f6 : iv 0 0 (h 0 36) := iv_eql f4 (iv_lit (lo := 0) (hi := 0) (x := 0) rfl) c5 rfl
      unfold PX12_place_79 FX12_place_79
      have I7 : IM z (hs h 0 0 2) := IMs I (k := 0) (i := 0) (v := 2) (iv_any 2) rfl
      refine sf_if (fun c8 => ?_) (fun c8 => ?_)
      · exact ⟨trivial, Qi_mk (iv_any 0) I7⟩
      · exact absurd rfl c8
    · have f9 : iv 1 1 (h 0 36) := iv_nel f4 c5 rfl
      refine sf_if (fun c10 => ?_) (fun c10 => ?_)
      · unfold PX12_place_79 FX12_place_79
        have I11 : IM z (hs h 0 0 1) := IMs I (k := 0) (i := 0) (v := 1) (iv_any 1) rfl
        refine sf_if (fun c12 => ?_) (fun c12 => ?_)
        · exact ⟨trivial, Qi_mk (iv_any 0) I11⟩
        · exact absurd rfl c12
      · exact absurd rfl c10
  · have f13 : iv 0 11 a0 := iv_and (iv_any _) (s1.2.2 c2) rfl
    have f14 : iv 1 1 (FX12_isThing a0 h) := iv_nel s1.2.1 c2 rfl
    have f15 : iv 0 300 (h 0 42) := IMv I 0 _
    have f16 : iv 0 3600 (12 * (h 0 42)) := iv_mul (c := 12) rfl f15 rfl
    have f17 : iv 0 3611 ((12 * (h 0 42)) + a0) := iv_add f16 f13 rfl
    refine sf_n (iv_in f17 rfl) ?_
    refine sf_if (fun c18 => ?_) (fun c18 => ?_)
    · have f19 : iv 1 1 (h 25 (((12 * (h 0 42)) + a0).toNatClampNeg)) := iv_eql (iv_any (h 25 (((12 * (h 0 42)) + a0).toNatClampNeg))) (iv_lit (lo := 1) (hi := 1) (x := 1) rfl) c18 rfl
      refine sf_n (iv_in f17 rfl) ?_
      have f20 : iv 0 16 (h 27 (((12 * (h 0 42)) + a0).toNatClampNeg)) := IMv I 27 _
      have f21 : iv (-1) 15 ((h 27 (((12 * (h 0 42)) + a0).toNatClampNeg)) - 1) := iv_sub f20 (iv_lit (lo := 1) (hi := 1) (x := 1) rfl) rfl
      refine sf_n isIn_p ?_
      refine sf_if (fun c22 => ?_) (fun c22 => ?_)
      · have f23 : iv 0 0 (FX12_isIn a1.toInt64 0 (((h 27 (((12 * (h 0 42)) + a0).toNatClampNeg)) - 1).toInt64)) := iv_eql (isIn_b (x := a1.toInt64) (l := 0) (u := ((h 27 (((12 * (h 0 42)) + a0).toNatClampNeg)) - 1).toInt64)) (iv_lit (lo := 0) (hi := 0) (x := 0) rfl) c22 rfl
        unfold PX12_place_56 FX12_place_56
        unfold PX12_place_57 FX12_place_57
        have f24 : iv 0 1 (h 0 36) := IMv I 0 _
        refine sf_if (fun c25 => ?_) (fun c25 => ?_)
        · have f26 : iv 0 0 (h 0 36) := iv_eql f24 (iv_lit (lo := 0) (hi := 0) (x := 0) rfl) c25 rfl
          unfold PX12_place_79 FX12_place_79
          have I27 : IM z (hs h 0 0 2) := IMs I (k := 0) (i := 0) (v := 2) (iv_any 2) rfl
          refine sf_if (fun c28 => ?_) (fun c28 => ?_)
          · exact ⟨trivial, Qi_mk (iv_any 0) I27⟩
          · exact absurd rfl c28
        · have f29 : iv 1 1 (h 0 36) := iv_nel f24 c25 rfl
          refine sf_if (fun c30 => ?_) (fun c30 => ?_)
          · unfold PX12_place_79 FX12_place_79
            have I31 : IM z (hs h 0 0 1) := IMs I (k := 0) (i := 0) (v := 1) (iv_any 1) rfl
            refine sf_if (fun c32 => ?_) (fun c32 => ?_)
            · exact ⟨trivial, Qi_mk (iv_any 0) I31⟩
            · exact absurd rfl c32
          · exact absurd rfl c30
      · have f33 : iv 0 15 a1 := isIn_iv (iv_any a1) (lw_lit (lo := 0) (hi := 0) (x := 0) rfl) (lw_of f21) c22 rfl
        have f34 : iv 1 1 (FX12_isIn a1.toInt64 0 (((h 27 (((12 * (h 0 42)) + a0).toNatClampNeg)) - 1).toInt64)) := iv_nel (isIn_b (x := a1.toInt64) (l := 0) (u := ((h 27 (((12 * (h 0 42)) + a0).toNatClampNeg)) - 1).toInt64)) c22 rfl
        unfold PX12_place_57 FX12_place_57
        have f35 : iv 0 1 (h 0 36) := IMv I 0 _
        refine sf_if (fun c36 => ?_) (fun c36 => ?_)
        · have f37 : iv 0 0 (h 0 36) := iv_eql f35 (iv_lit (lo := 0) (hi := 0) (x := 0) rfl) c36 rfl
          unfold PX12_place_79 FX12_place_79
          have I38 : IM z (hs h 0 0 2) := IMs I (k := 0) (i := 0) (v := 2) (iv_any 2) rfl
          refine sf_if (fun c39 => ?_) (fun c39 => ?_)
          · have f40 : iv 1 0 1 := iv_eql (iv_lit (lo := 1) (hi := 1) (x := 1) rfl) (iv_lit (lo := 0) (hi := 0) (x := 0) rfl) c39 rfl
            exact iv_no f40 rfl
          · have f41 : iv 0 57600 (192 * (h 0 42)) := iv_mul (c := 192) rfl f15 rfl
            have f42 : iv 0 176 (16 * a0) := iv_mul (c := 16) rfl f13 rfl
            have f43 : iv 0 57776 ((192 * (h 0 42)) + (16 * a0)) := iv_add f41 f42 rfl
            have f44 : iv 0 57791 (((192 * (h 0 42)) + (16 * a0)) + a1) := iv_add f43 f33 rfl
            refine sf_n (iv_in f44 rfl) ?_
            exact ⟨trivial, Qi_mk (iv_any (h 28 ((((192 * (h 0 42)) + (16 * a0)) + a1).toNatClampNeg))) I38⟩
        · have f45 : iv 1 1 (h 0 36) := iv_nel f35 c36 rfl
          refine sf_if (fun c46 => ?_) (fun c46 => ?_)
          · have f47 : iv 1 0 1 := iv_eql (iv_lit (lo := 1) (hi := 1) (x := 1) rfl) (iv_lit (lo := 0) (hi := 0) (x := 0) rfl) c46 rfl
            exact iv_no f47 rfl
          · unfold PX12_place_79 FX12_place_79
            have I48 : IM z (hs h 0 0 0) := IMs I (k := 0) (i := 0) (v := 0) (iv_any 0) rfl
            refine sf_if (fun c49 => ?_) (fun c49 => ?_)
            · have f50 : iv 1 0 1 := iv_eql (iv_lit (lo := 1) (hi := 1) (x := 1) rfl) (iv_lit (lo := 0) (hi := 0) (x := 0) rfl) c49 rfl
              exact iv_no f50 rfl
            · have f51 : iv 0 57600 (192 * (h 0 42)) := iv_mul (c := 192) rfl f15 rfl
              have f52 : iv 0 176 (16 * a0) := iv_mul (c := 16) rfl f13 rfl
              have f53 : iv 0 57776 ((192 * (h 0 42)) + (16 * a0)) := iv_add f51 f52 rfl
              have f54 : iv 0 57791 (((192 * (h 0 42)) + (16 * a0)) + a1) := iv_add f53 f33 rfl
              refine sf_n (iv_in f54 rfl) ?_
              exact ⟨trivial, Qi_mk (iv_any (h 28 ((((192 * (h 0 42)) + (16 * a0)) + a1).toNatClampNeg))) I48⟩
    · unfold PX12_place_56 FX12_place_56
      unfold PX12_place_57 FX12_place_57
      have f55 : iv 0 1 (h 0 36) := IMv I 0 _
      refine sf_if (fun c56 => ?_) (fun c56 => ?_)
      · have f57 : iv 0 0 (h 0 36) := iv_eql f55 (iv_lit (lo := 0) (hi := 0) (x := 0) rfl) c56 rfl
        unfold PX12_place_79 FX12_place_79
        have I58 : IM z (hs h 0 0 2) := IMs I (k := 0) (i := 0) (v := 2) (iv_any 2) rfl
        refine sf_if (fun c59 => ?_) (fun c59 => ?_)
        · exact ⟨trivial, Qi_mk (iv_any 0) I58⟩
        · exact absurd rfl c59
      · have f60 : iv 1 1 (h 0 36) := iv_nel f55 c56 rfl
        refine sf_if (fun c61 => ?_) (fun c61 => ?_)
        · unfold PX12_place_79 FX12_place_79
          have I62 : IM z (hs h 0 0 1) := IMs I (k := 0) (i := 0) (v := 1) (iv_any 1) rfl
          refine sf_if (fun c63 => ?_) (fun c63 => ?_)
          · exact ⟨trivial, Qi_mk (iv_any 0) I62⟩
          · exact absurd rfl c63
        · exact absurd rfl c61

-- X12_thread
set_option maxRecDepth 100000 in
set_option maxHeartbeats 4000000 in
theorem SX12_thread {z : zT} (a0 : Int32) (a1 : Int32) (h : ph_H) (I : IM z h) : PX12_thread a0 a1 h ∧ Qi z (-2147483648) 2147483647 (FX12_thread a0 a1 h) := by
  unfold PX12_thread FX12_thread
  have I1 : IM z (hs h 0 0 0) := IMs I (k := 0) (i := 0) (v := 0) (iv_any 0) rfl
  have f2 : iv 0 1 (h 0 36) := IMv I 0 _
  refine sf_if (fun c3 => ?_) (fun c3 => ?_)
  · have f4 : iv 0 0 (h 0 36) := iv_eql f2 (iv_lit (lo := 0) (hi := 0) (x := 0) rfl) c3 rfl
    exact ⟨trivial, Qi_mk (iv_any (-2)) I1⟩
  · have f5 : iv 1 1 (h 0 36) := iv_nel f2 c3 rfl
    refine sf_n isIn_p ?_
    refine sf_if (fun c6 => ?_) (fun c6 => ?_)
    · have f7 : iv 0 0 (FX12_isIn a0.toInt64 0 3) := iv_eql (isIn_b (x := a0.toInt64) (l := 0) (u := 3)) (iv_lit (lo := 0) (hi := 0) (x := 0) rfl) c6 rfl
      exact ⟨trivial, Qi_mk (iv_any (-1)) I1⟩
    · have f8 : iv 0 3 a0 := isIn_iv (iv_any a0) (lw_lit (lo := 0) (hi := 0) (x := 0) rfl) (lw_lit (lo := 3) (hi := 3) (x := 3) rfl) c6 rfl
      have f9 : iv 1 1 (FX12_isIn a0.toInt64 0 3) := iv_nel (isIn_b (x := a0.toInt64) (l := 0) (u := 3)) c6 rfl
      refine sf_n isIn_p ?_
      refine sf_if (fun c10 => ?_) (fun c10 => ?_)
      · have f11 : iv 0 0 (FX12_isIn a1.toInt64 0 1) := iv_eql (isIn_b (x := a1.toInt64) (l := 0) (u := 1)) (iv_lit (lo := 0) (hi := 0) (x := 0) rfl) c10 rfl
        exact ⟨trivial, Qi_mk (iv_any (-1)) I1⟩
      · have f12 : iv 0 1 a1 := isIn_iv (iv_any a1) (lw_lit (lo := 0) (hi := 0) (x := 0) rfl) (lw_lit (lo := 1) (hi := 1) (x := 1) rfl) c10 rfl
        have f13 : iv 1 1 (FX12_isIn a1.toInt64 0 1) := iv_nel (isIn_b (x := a1.toInt64) (l := 0) (u := 1)) c10 rfl
        refine sf_if (fun c14 => ?_) (fun c14 => ?_)
        · have f15 : iv 0 0 a1 := iv_eql f12 (iv_lit (lo := 0) (hi := 0) (x := 0) rfl) c14 rfl
          have f16 : iv 0 300 (h 0 42) := IMv I 0 _
          have f17 : iv 0 1200 (4 * (h 0 42)) := iv_mul (c := 4) rfl f16 rfl
          have f18 : iv 0 1203 ((4 * (h 0 42)) + a0) := iv_add f17 f8 rfl
          refine sf_n (iv_in f18 rfl) ?_
          exact ⟨trivial, Qi_mk (iv_any (h 22 (((4 * (h 0 42)) + a0).toNatClampNeg))) I1⟩
        · have f19 : iv 1 1 a1 := iv_nel f12 c14 rfl
          have f20 : iv 0 300 (h 0 42) := IMv I 0 _
          have f21 : iv 0 1200 (4 * (h 0 42)) := iv_mul (c := 4) rfl f20 rfl
          have f22 : iv 0 1203 ((4 * (h 0 42)) + a0) := iv_add f21 f8 rfl
          refine sf_n (iv_in f22 rfl) ?_
          exact ⟨trivial, Qi_mk (iv_any (h 23 (((4 * (h 0 42)) + a0).toNatClampNeg))) I1⟩

-- X12_last
set_option maxRecDepth 100000 in
set_option maxHeartbeats 4000000 in
theorem SX12_last_36 {z : zT} : ∀ (q : Nat) (x1 : Int32) (x2 : Int32) (x3 : Int32) (x4 : Int32) (h : ph_H), IM z h → iv 0 300 x2 → iv 0 300 x3 → iv 1 301 x4 → 301 - (x4).toInt < ((q : Nat) : Int) → PX12_last_36  q x1 x2 x3 x4 h ∧ Qi z (-2) 300 (FX12_last_36  q x1 x2 x3 x4 h) := by
  intro q
  induction q with
  | zero =>
    intro x1 x2 x3 x4 h I f_x2 f_x3 f_x4 mq
    exact mu_zu f_x4 mq rfl
  | succ q ih =>
    intro x1 x2 x3 x4 h I f_x2 f_x3 f_x4 mq
    unfold PX12_last_36 FX12_last_36
    refine sf_if (fun c1 => ?_) (fun c1 => ?_)
    · exact ⟨trivial, Qi_mk (iv_w (c := (-2)) (d := 300) f_x3 rfl) I⟩
    · have f2 : iv 1 300 x4 := iv_lel f_x4 f_x2 (nlt c1) rfl
      have f3 : iv 1 300 x2 := iv_ler f_x2 f_x4 (nlt c1) rfl
      refine sf_n (iv_in f2 rfl) ?_
      refine sf_if (fun c4 => ?_) (fun c4 => ?_)
      · refine sf_if (fun c5 => ?_) (fun c5 => ?_)
        · have f6 : iv (-2147483648) (-1) x1 := iv_ltl (iv_any x1) (iv_lit (lo := 0) (hi := 0) (x := 0) rfl) c5 rfl
          unfold PX12_last_62 FX12_last_62
          unfold PX12_last_63 FX12_last_63
          have f7 : iv 2 301 (x4 + 1) := iv_add f2 (iv_lit (lo := 1) (hi := 1) (x := 1) rfl) rfl
          exact ih x1 x2 x3 (x4 + 1) h I (iv_w (c := 0) (d := 300) f3 rfl) f_x3 (iv_w (c := 1) (d := 301) f7 rfl) (mu_up f2 mq rfl)
        · have f8 : iv 0 2147483647 x1 := iv_ler (iv_any x1) (iv_lit (lo := 0) (hi := 0) (x := 0) rfl) (nlt c5) rfl
          unfold PX12_last_63 FX12_last_63
          have f9 : iv 2 301 (x4 + 1) := iv_add f2 (iv_lit (lo := 1) (hi := 1) (x := 1) rfl) rfl
          exact ih x1 x2 x4 (x4 + 1) h I (iv_w (c := 0) (d := 300) f3 rfl) (iv_w (c := 0) (d := 300) f2 rfl) (iv_w (c := 1) (d := 301) f9 rfl) (mu_up f2 mq rfl)
      · unfold PX12_last_62 FX12_last_62
        unfold PX12_last_63 FX12_last_63
        have f10 : iv 2 301 (x4 + 1) := iv_add f2 (iv_lit (lo := 1) (hi := 1) (x := 1) rfl) rfl
        exact ih x1 x2 x3 (x4 + 1) h I (iv_w (c := 0) (d := 300) f3 rfl) f_x3 (iv_w (c := 1) (d := 301) f10 rfl) (mu_up f2 mq rfl)
set_option maxRecDepth 100000 in
set_option maxHeartbeats 4000000 in
theorem SX12_last {z : zT} (a0 : Int32) (a1 : Int32) (h : ph_H) (I : IM z h) : PX12_last a0 a1 h ∧ Qi z (-2) 300 (FX12_last a0 a1 h) := by
  unfold PX12_last FX12_last
  have I1 : IM z (hs h 0 0 0) := IMs I (k := 0) (i := 0) (v := 0) (iv_any 0) rfl
  have f2 : iv 0 1 (h 0 36) := IMv I 0 _
  refine sf_if (fun c3 => ?_) (fun c3 => ?_)
  · have f4 : iv 0 0 (h 0 36) := iv_eql f2 (iv_lit (lo := 0) (hi := 0) (x := 0) rfl) c3 rfl
    exact ⟨trivial, Qi_mk (iv_w (c := (-2)) (d := 300) (iv_lit (lo := (-2)) (hi := (-2)) (x := (-2)) rfl) rfl) I1⟩
  · have f5 : iv 1 1 (h 0 36) := iv_nel f2 c3 rfl
    have f6 : iv 0 300 (h 0 38) := IMv I 0 _
    refine sf_n isIn_p ?_
    refine sf_if (fun c7 => ?_) (fun c7 => ?_)
    · have f8 : iv 0 0 (FX12_isIn a1.toInt64 0 ((h 0 38).toInt64)) := iv_eql (isIn_b (x := a1.toInt64) (l := 0) (u := (h 0 38).toInt64)) (iv_lit (lo := 0) (hi := 0) (x := 0) rfl) c7 rfl
      exact ⟨trivial, Qi_mk (iv_w (c := (-2)) (d := 300) (iv_lit (lo := (-1)) (hi := (-1)) (x := (-1)) rfl) rfl) I1⟩
    · have f9 : iv 0 300 a1 := isIn_iv (iv_any a1) (lw_lit (lo := 0) (hi := 0) (x := 0) rfl) (lw_of f6) c7 rfl
      have f10 : iv 1 1 (FX12_isIn a1.toInt64 0 ((h 0 38).toInt64)) := iv_nel (isIn_b (x := a1.toInt64) (l := 0) (u := (h 0 38).toInt64)) c7 rfl
      exact SX12_last_36 2000 a0 a1 0 1 (hs h 0 0 0) I1 f9 (iv_w (c := 0) (d := 300) (iv_lit (lo := 0) (hi := 0) (x := 0) rfl) rfl) (iv_w (c := 1) (d := 301) (iv_lit (lo := 1) (hi := 1) (x := 1) rfl) rfl) (mu_0u (iv_lit (lo := 1) (hi := 1) (x := 1) rfl) rfl)

-- X12_next
set_option maxRecDepth 100000 in
set_option maxHeartbeats 4000000 in
theorem SX12_next_35 {z : zT} : ∀ (q : Nat) (x1 : Int32) (x3 : Int32) (h : ph_H), IM z h → iv 1 301 x3 → 301 - (x3).toInt < ((q : Nat) : Int) → PX12_next_35  q x1 x3 h ∧ Qi z (-2) 300 (FX12_next_35  q x1 x3 h) := by
  intro q
  induction q with
  | zero =>
    intro x1 x3 h I f_x3 mq
    exact mu_zu f_x3 mq rfl
  | succ q ih =>
    intro x1 x3 h I f_x3 mq
    unfold PX12_next_35 FX12_next_35
    have f1 : iv 0 300 (h 0 38) := IMv I 0 _
    refine sf_if (fun c2 => ?_) (fun c2 => ?_)
    · exact ⟨trivial, Qi_mk (iv_w (c := (-2)) (d := 300) (iv_lit (lo := 0) (hi := 0) (x := 0) rfl) rfl) I⟩
    · have f3 : iv 1 300 x3 := iv_lel f_x3 f1 (nlt c2) rfl
      have f4 : iv 1 300 (h 0 38) := iv_ler f1 f_x3 (nlt c2) rfl
      refine sf_n (iv_in f3 rfl) ?_
      refine sf_if (fun c5 => ?_) (fun c5 => ?_)
      · refine sf_if (fun c6 => ?_) (fun c6 => ?_)
        · have f7 : iv (-2147483648) (-1) x1 := iv_ltl (iv_any x1) (iv_lit (lo := 0) (hi := 0) (x := 0) rfl) c6 rfl
          unfold PX12_next_59 FX12_next_59
          have f8 : iv 2 301 (x3 + 1) := iv_add f3 (iv_lit (lo := 1) (hi := 1) (x := 1) rfl) rfl
          exact ih x1 (x3 + 1) h I (iv_w (c := 1) (d := 301) f8 rfl) (mu_up f3 mq rfl)
        · have f9 : iv 0 2147483647 x1 := iv_ler (iv_any x1) (iv_lit (lo := 0) (hi := 0) (x := 0) rfl) (nlt c6) rfl
          exact ⟨trivial, Qi_mk (iv_w (c := (-2)) (d := 300) f3 rfl) I⟩
      · unfold PX12_next_59 FX12_next_59
        have f10 : iv 2 301 (x3 + 1) := iv_add f3 (iv_lit (lo := 1) (hi := 1) (x := 1) rfl) rfl
        exact ih x1 (x3 + 1) h I (iv_w (c := 1) (d := 301) f10 rfl) (mu_up f3 mq rfl)
set_option maxRecDepth 100000 in
set_option maxHeartbeats 4000000 in
theorem SX12_next {z : zT} (a0 : Int32) (a1 : Int32) (h : ph_H) (I : IM z h) : PX12_next a0 a1 h ∧ Qi z (-2) 300 (FX12_next a0 a1 h) := by
  unfold PX12_next FX12_next
  have I1 : IM z (hs h 0 0 0) := IMs I (k := 0) (i := 0) (v := 0) (iv_any 0) rfl
  have f2 : iv 0 1 (h 0 36) := IMv I 0 _
  refine sf_if (fun c3 => ?_) (fun c3 => ?_)
  · have f4 : iv 0 0 (h 0 36) := iv_eql f2 (iv_lit (lo := 0) (hi := 0) (x := 0) rfl) c3 rfl
    exact ⟨trivial, Qi_mk (iv_w (c := (-2)) (d := 300) (iv_lit (lo := (-2)) (hi := (-2)) (x := (-2)) rfl) rfl) I1⟩
  · have f5 : iv 1 1 (h 0 36) := iv_nel f2 c3 rfl
    have f6 : iv 0 300 (h 0 38) := IMv I 0 _
    refine sf_n isIn_p ?_
    refine sf_if (fun c7 => ?_) (fun c7 => ?_)
    · have f8 : iv 0 0 (FX12_isIn a1.toInt64 0 ((h 0 38).toInt64)) := iv_eql (isIn_b (x := a1.toInt64) (l := 0) (u := (h 0 38).toInt64)) (iv_lit (lo := 0) (hi := 0) (x := 0) rfl) c7 rfl
      exact ⟨trivial, Qi_mk (iv_w (c := (-2)) (d := 300) (iv_lit (lo := (-1)) (hi := (-1)) (x := (-1)) rfl) rfl) I1⟩
    · have f9 : iv 0 300 a1 := isIn_iv (iv_any a1) (lw_lit (lo := 0) (hi := 0) (x := 0) rfl) (lw_of f6) c7 rfl
      have f10 : iv 1 1 (FX12_isIn a1.toInt64 0 ((h 0 38).toInt64)) := iv_nel (isIn_b (x := a1.toInt64) (l := 0) (u := (h 0 38).toInt64)) c7 rfl
      have f11 : iv 1 301 (a1 + 1) := iv_add f9 (iv_lit (lo := 1) (hi := 1) (x := 1) rfl) rfl
      exact SX12_next_35 2000 a0 (a1 + 1) (hs h 0 0 0) I1 f11 (mu_0u f11 rfl)

-- X12_when
set_option maxRecDepth 100000 in
set_option maxHeartbeats 4000000 in
theorem SX12_when_54 {z : zT} : ∀ (q : Nat) (x1 : Int32) (x2 : Int32) (x3 : Int32) (x4 : Int32) (x5 : Int32) (x6 : Int32) (x7 : Int32) (x8 : Int32) (h : ph_H), IM z h → iv 0 11 x1 → iv 0 2 x4 → iv 0 1 x6 → iv (-1) 300 x7 → iv 0 302 x8 → 302 - (x8).toInt < ((q : Nat) : Int) → PX12_when_54  q x1 x2 x3 x4 x5 x6 x7 x8 h ∧ Qi z (-2147483648) 2147483647 (FX12_when_54  q x1 x2 x3 x4 x5 x6 x7 x8 h) := by
  intro q
  induction q with
  | zero =>
    intro x1 x2 x3 x4 x5 x6 x7 x8 h I f_x1 f_x4 f_x6 f_x7 f_x8 mq
    exact mu_zu f_x8 mq rfl
  | succ q ih =>
    intro x1 x2 x3 x4 x5 x6 x7 x8 h I f_x1 f_x4 f_x6 f_x7 f_x8 mq
    unfold PX12_when_54 FX12_when_54
    have f1 : iv 0 300 (h 0 38) := IMv I 0 _
    have f2 : iv 1 301 ((h 0 38) + 1) := iv_add f1 (iv_lit (lo := 1) (hi := 1) (x := 1) rfl) rfl
    refine sf_if (fun c3 => ?_) (fun c3 => ?_)
    · have f4 : iv 2 302 x8 := iv_ltr f_x8 f2 c3 rfl
      refine sf_if (fun c5 => ?_) (fun c5 => ?_)
      · have f6 : iv 0 0 x4 := iv_eql f_x4 (iv_lit (lo := 0) (hi := 0) (x := 0) rfl) c5 rfl
        exact ⟨trivial, Qi_mk (iv_any x5) I⟩
      · have f7 : iv 1 2 x4 := iv_nel f_x4 c5 rfl
        exact ⟨trivial, Qi_mk (iv_any (-1)) I⟩
    · have f8 : iv 0 301 x8 := iv_lel f_x8 f2 (nlt c3) rfl
      refine sf_if (fun c9 => ?_) (fun c9 => ?_)
      · have f10 : iv 1 301 x8 := iv_ltr f8 f1 c9 rfl
        unfold PX12_when_109 FX12_when_109
        unfold PX12_when_110 FX12_when_110
        refine sf_if (fun c11 => ?_) (fun c11 => ?_)
        · unfold PX12_when_126 FX12_when_126
          refine sf_if (fun c12 => ?_) (fun c12 => ?_)
          · refine sf_if (fun c13 => ?_) (fun c13 => ?_)
            · have f14 : iv 0 0 x6 := iv_eql f_x6 (iv_lit (lo := 0) (hi := 0) (x := 0) rfl) c13 rfl
              unfold PX12_when_166 FX12_when_166
              have f15 : iv 2 302 (x8 + 1) := iv_add f10 (iv_lit (lo := 1) (hi := 1) (x := 1) rfl) rfl
              exact ih x1 x2 x3 x4 x5 0 x7 (x8 + 1) h I f_x1 f_x4 (iv_w (c := 0) (d := 1) (iv_lit (lo := 0) (hi := 0) (x := 0) rfl) rfl) f_x7 (iv_w (c := 0) (d := 302) f15 rfl) (mu_up f10 mq rfl)
            · have f16 : iv 1 1 x6 := iv_nel f_x6 c13 rfl
              refine sf_if (fun c17 => ?_) (fun c17 => ?_)
              · refine sf_if (fun c18 => ?_) (fun c18 => ?_)
                · have f19 : iv 0 0 x4 := iv_lel f_x4 (iv_lit (lo := 0) (hi := 0) (x := 0) rfl) c18 rfl
                  unfold PX12_when_163 FX12_when_163
                  unfold PX12_when_166 FX12_when_166
                  have f20 : iv 2 302 (x8 + 1) := iv_add f10 (iv_lit (lo := 1) (hi := 1) (x := 1) rfl) rfl
                  exact ih x1 x2 x3 x4 (x5 + 1) 0 x7 (x8 + 1) h I f_x1 (iv_w (c := 0) (d := 2) f19 rfl) (iv_w (c := 0) (d := 1) (iv_lit (lo := 0) (hi := 0) (x := 0) rfl) rfl) f_x7 (iv_w (c := 0) (d := 302) f20 rfl) (mu_up f10 mq rfl)
                · have f21 : iv 1 2 x4 := iv_ltr f_x4 (iv_lit (lo := 0) (hi := 0) (x := 0) rfl) (nle c18) rfl
                  refine sf_if (fun c22 => ?_) (fun c22 => ?_)
                  · have f23 : iv 1 1 x4 := iv_eql f21 (iv_lit (lo := 1) (hi := 1) (x := 1) rfl) c22 rfl
                    exact ⟨trivial, Qi_mk (iv_any x7) I⟩
                  · have f24 : iv 2 2 x4 := iv_nel f21 c22 rfl
                    have f25 : iv 0 300 (x8 - 1) := iv_sub f10 (iv_lit (lo := 1) (hi := 1) (x := 1) rfl) rfl
                    exact ⟨trivial, Qi_mk (iv_any (x8 - 1)) I⟩
              · unfold PX12_when_163 FX12_when_163
                unfold PX12_when_166 FX12_when_166
                have f26 : iv 2 302 (x8 + 1) := iv_add f10 (iv_lit (lo := 1) (hi := 1) (x := 1) rfl) rfl
                exact ih x1 x2 x3 x4 (x5 + 1) 0 x7 (x8 + 1) h I f_x1 f_x4 (iv_w (c := 0) (d := 1) (iv_lit (lo := 0) (hi := 0) (x := 0) rfl) rfl) f_x7 (iv_w (c := 0) (d := 302) f26 rfl) (mu_up f10 mq rfl)
          · exact absurd rfl c12
        · exact absurd rfl c11
      · have f27 : iv 0 300 x8 := iv_lel f8 f1 (nlt c9) rfl
        have f28 : iv 0 8400 (28 * x8) := iv_mul (c := 28) rfl f27 rfl
        have f29 : iv 0 8411 ((28 * x8) + x1) := iv_add f28 f_x1 rfl
        refine sf_n (iv_in f29 rfl) ?_
        refine sf_if (fun c30 => ?_) (fun c30 => ?_)
        · have f31 : iv 0 0 (h 20 (((28 * x8) + x1).toNatClampNeg)) := iv_eql (iv_any (h 20 (((28 * x8) + x1).toNatClampNeg))) (iv_lit (lo := 0) (hi := 0) (x := 0) rfl) c30 rfl
          refine sf_n (iv_in f29 rfl) ?_
          refine sf_if (fun c32 => ?_) (fun c32 => ?_)
          · unfold PX12_when_110 FX12_when_110
            refine sf_if (fun c33 => ?_) (fun c33 => ?_)
            · have f34 : iv 1 0 1 := iv_eql (iv_lit (lo := 1) (hi := 1) (x := 1) rfl) (iv_lit (lo := 0) (hi := 0) (x := 0) rfl) c33 rfl
              exact iv_no f34 rfl
            · refine sf_if (fun c35 => ?_) (fun c35 => ?_)
              · have f36 : iv 0 0 x6 := iv_eql f_x6 (iv_lit (lo := 0) (hi := 0) (x := 0) rfl) c35 rfl
                unfold PX12_when_126 FX12_when_126
                refine sf_if (fun c37 => ?_) (fun c37 => ?_)
                · have f38 : iv 1 0 1 := iv_eql (iv_lit (lo := 1) (hi := 1) (x := 1) rfl) (iv_lit (lo := 0) (hi := 0) (x := 0) rfl) c37 rfl
                  exact iv_no f38 rfl
                · unfold PX12_when_166 FX12_when_166
                  have f39 : iv 1 301 (x8 + 1) := iv_add f27 (iv_lit (lo := 1) (hi := 1) (x := 1) rfl) rfl
                  exact ih x1 x2 x3 x4 x5 1 x8 (x8 + 1) h I f_x1 f_x4 (iv_w (c := 0) (d := 1) (iv_lit (lo := 1) (hi := 1) (x := 1) rfl) rfl) (iv_w (c := (-1)) (d := 300) f27 rfl) (iv_w (c := 0) (d := 302) f39 rfl) (mu_up f27 mq rfl)
              · have f40 : iv 1 1 x6 := iv_nel f_x6 c35 rfl
                unfold PX12_when_126 FX12_when_126
                refine sf_if (fun c41 => ?_) (fun c41 => ?_)
                · have f42 : iv 1 0 1 := iv_eql (iv_lit (lo := 1) (hi := 1) (x := 1) rfl) (iv_lit (lo := 0) (hi := 0) (x := 0) rfl) c41 rfl
                  exact iv_no f42 rfl
                · unfold PX12_when_166 FX12_when_166
                  have f43 : iv 1 301 (x8 + 1) := iv_add f27 (iv_lit (lo := 1) (hi := 1) (x := 1) rfl) rfl
                  exact ih x1 x2 x3 x4 x5 1 x7 (x8 + 1) h I f_x1 f_x4 (iv_w (c := 0) (d := 1) (iv_lit (lo := 1) (hi := 1) (x := 1) rfl) rfl) f_x7 (iv_w (c := 0) (d := 302) f43 rfl) (mu_up f27 mq rfl)
          · unfold PX12_when_109 FX12_when_109
            unfold PX12_when_110 FX12_when_110
            refine sf_if (fun c44 => ?_) (fun c44 => ?_)
            · unfold PX12_when_126 FX12_when_126
              refine sf_if (fun c45 => ?_) (fun c45 => ?_)
              · refine sf_if (fun c46 => ?_) (fun c46 => ?_)
                · have f47 : iv 0 0 x6 := iv_eql f_x6 (iv_lit (lo := 0) (hi := 0) (x := 0) rfl) c46 rfl
                  unfold PX12_when_166 FX12_when_166
                  have f48 : iv 1 301 (x8 + 1) := iv_add f27 (iv_lit (lo := 1) (hi := 1) (x := 1) rfl) rfl
                  exact ih x1 x2 x3 x4 x5 0 x7 (x8 + 1) h I f_x1 f_x4 (iv_w (c := 0) (d := 1) (iv_lit (lo := 0) (hi := 0) (x := 0) rfl) rfl) f_x7 (iv_w (c := 0) (d := 302) f48 rfl) (mu_up f27 mq rfl)
                · have f49 : iv 1 1 x6 := iv_nel f_x6 c46 rfl
                  refine sf_if (fun c50 => ?_) (fun c50 => ?_)
                  · refine sf_if (fun c51 => ?_) (fun c51 => ?_)
                    · have f52 : iv 0 0 x4 := iv_lel f_x4 (iv_lit (lo := 0) (hi := 0) (x := 0) rfl) c51 rfl
                      unfold PX12_when_163 FX12_when_163
                      unfold PX12_when_166 FX12_when_166
                      have f53 : iv 1 301 (x8 + 1) := iv_add f27 (iv_lit (lo := 1) (hi := 1) (x := 1) rfl) rfl
                      exact ih x1 x2 x3 x4 (x5 + 1) 0 x7 (x8 + 1) h I f_x1 (iv_w (c := 0) (d := 2) f52 rfl) (iv_w (c := 0) (d := 1) (iv_lit (lo := 0) (hi := 0) (x := 0) rfl) rfl) f_x7 (iv_w (c := 0) (d := 302) f53 rfl) (mu_up f27 mq rfl)
                    · have f54 : iv 1 2 x4 := iv_ltr f_x4 (iv_lit (lo := 0) (hi := 0) (x := 0) rfl) (nle c51) rfl
                      refine sf_if (fun c55 => ?_) (fun c55 => ?_)
                      · have f56 : iv 1 1 x4 := iv_eql f54 (iv_lit (lo := 1) (hi := 1) (x := 1) rfl) c55 rfl
                        exact ⟨trivial, Qi_mk (iv_any x7) I⟩
                      · have f57 : iv 2 2 x4 := iv_nel f54 c55 rfl
                        have f58 : iv (-1) 299 (x8 - 1) := iv_sub f27 (iv_lit (lo := 1) (hi := 1) (x := 1) rfl) rfl
                        exact ⟨trivial, Qi_mk (iv_any (x8 - 1)) I⟩
                  · unfold PX12_when_163 FX12_when_163
                    unfold PX12_when_166 FX12_when_166
                    have f59 : iv 1 301 (x8 + 1) := iv_add f27 (iv_lit (lo := 1) (hi := 1) (x := 1) rfl) rfl
                    exact ih x1 x2 x3 x4 (x5 + 1) 0 x7 (x8 + 1) h I f_x1 f_x4 (iv_w (c := 0) (d := 1) (iv_lit (lo := 0) (hi := 0) (x := 0) rfl) rfl) f_x7 (iv_w (c := 0) (d := 302) f59 rfl) (mu_up f27 mq rfl)
              · exact absurd rfl c45
            · exact absurd rfl c44
        · unfold PX12_when_109 FX12_when_109
          unfold PX12_when_110 FX12_when_110
          refine sf_if (fun c60 => ?_) (fun c60 => ?_)
          · unfold PX12_when_126 FX12_when_126
            refine sf_if (fun c61 => ?_) (fun c61 => ?_)
            · refine sf_if (fun c62 => ?_) (fun c62 => ?_)
              · have f63 : iv 0 0 x6 := iv_eql f_x6 (iv_lit (lo := 0) (hi := 0) (x := 0) rfl) c62 rfl
                unfold PX12_when_166 FX12_when_166
                have f64 : iv 1 301 (x8 + 1) := iv_add f27 (iv_lit (lo := 1) (hi := 1) (x := 1) rfl) rfl
                exact ih x1 x2 x3 x4 x5 0 x7 (x8 + 1) h I f_x1 f_x4 (iv_w (c := 0) (d := 1) (iv_lit (lo := 0) (hi := 0) (x := 0) rfl) rfl) f_x7 (iv_w (c := 0) (d := 302) f64 rfl) (mu_up f27 mq rfl)
              · have f65 : iv 1 1 x6 := iv_nel f_x6 c62 rfl
                refine sf_if (fun c66 => ?_) (fun c66 => ?_)
                · refine sf_if (fun c67 => ?_) (fun c67 => ?_)
                  · have f68 : iv 0 0 x4 := iv_lel f_x4 (iv_lit (lo := 0) (hi := 0) (x := 0) rfl) c67 rfl
                    unfold PX12_when_163 FX12_when_163
                    unfold PX12_when_166 FX12_when_166
                    have f69 : iv 1 301 (x8 + 1) := iv_add f27 (iv_lit (lo := 1) (hi := 1) (x := 1) rfl) rfl
                    exact ih x1 x2 x3 x4 (x5 + 1) 0 x7 (x8 + 1) h I f_x1 (iv_w (c := 0) (d := 2) f68 rfl) (iv_w (c := 0) (d := 1) (iv_lit (lo := 0) (hi := 0) (x := 0) rfl) rfl) f_x7 (iv_w (c := 0) (d := 302) f69 rfl) (mu_up f27 mq rfl)
                  · have f70 : iv 1 2 x4 := iv_ltr f_x4 (iv_lit (lo := 0) (hi := 0) (x := 0) rfl) (nle c67) rfl
                    refine sf_if (fun c71 => ?_) (fun c71 => ?_)
                    · have f72 : iv 1 1 x4 := iv_eql f70 (iv_lit (lo := 1) (hi := 1) (x := 1) rfl) c71 rfl
                      exact ⟨trivial, Qi_mk (iv_any x7) I⟩
                    · have f73 : iv 2 2 x4 := iv_nel f70 c71 rfl
                      have f74 : iv (-1) 299 (x8 - 1) := iv_sub f27 (iv_lit (lo := 1) (hi := 1) (x := 1) rfl) rfl
                      exact ⟨trivial, Qi_mk (iv_any (x8 - 1)) I⟩
                · unfold PX12_when_163 FX12_when_163
                  unfold PX12_when_166 FX12_when_166
                  have f75 : iv 1 301 (x8 + 1) := iv_add f27 (iv_lit (lo := 1) (hi := 1) (x := 1) rfl) rfl
                  exact ih x1 x2 x3 x4 (x5 + 1) 0 x7 (x8 + 1) h I f_x1 f_x4 (iv_w (c := 0) (d := 1) (iv_lit (lo := 0) (hi := 0) (x := 0) rfl) rfl) f_x7 (iv_w (c := 0) (d := 302) f75 rfl) (mu_up f27 mq rfl)
            · exact absurd rfl c61
          · exact absurd rfl c60
set_option maxRecDepth 100000 in
set_option maxHeartbeats 4000000 in
theorem SX12_when {z : zT} (a0 : Int32) (a1 : Int32) (a2 : Int32) (a3 : Int32) (h : ph_H) (I : IM z h) : PX12_when a0 a1 a2 a3 h ∧ Qi z (-2147483648) 2147483647 (FX12_when a0 a1 a2 a3 h) := by
  unfold PX12_when FX12_when
  have I1 : IM z (hs h 0 0 0) := IMs I (k := 0) (i := 0) (v := 0) (iv_any 0) rfl
  have f2 : iv 0 1 (h 0 36) := IMv I 0 _
  refine sf_if (fun c3 => ?_) (fun c3 => ?_)
  · have f4 : iv 0 0 (h 0 36) := iv_eql f2 (iv_lit (lo := 0) (hi := 0) (x := 0) rfl) c3 rfl
    exact ⟨trivial, Qi_mk (iv_any (-2)) I1⟩
  · have f5 : iv 1 1 (h 0 36) := iv_nel f2 c3 rfl
    refine sf_n isIn_p ?_
    refine sf_if (fun c6 => ?_) (fun c6 => ?_)
    · have f7 : iv 0 0 (FX12_isIn a0.toInt64 0 11) := iv_eql (isIn_b (x := a0.toInt64) (l := 0) (u := 11)) (iv_lit (lo := 0) (hi := 0) (x := 0) rfl) c6 rfl
      exact ⟨trivial, Qi_mk (iv_any (-1)) I1⟩
    · have f8 : iv 0 11 a0 := isIn_iv (iv_any a0) (lw_lit (lo := 0) (hi := 0) (x := 0) rfl) (lw_lit (lo := 11) (hi := 11) (x := 11) rfl) c6 rfl
      have f9 : iv 1 1 (FX12_isIn a0.toInt64 0 11) := iv_nel (isIn_b (x := a0.toInt64) (l := 0) (u := 11)) c6 rfl
      refine sf_n isIn_p ?_
      refine sf_if (fun c10 => ?_) (fun c10 => ?_)
      · have f11 : iv 0 0 (FX12_isIn a3.toInt64 0 2) := iv_eql (isIn_b (x := a3.toInt64) (l := 0) (u := 2)) (iv_lit (lo := 0) (hi := 0) (x := 0) rfl) c10 rfl
        exact ⟨trivial, Qi_mk (iv_any (-1)) I1⟩
      · have f12 : iv 0 2 a3 := isIn_iv (iv_any a3) (lw_lit (lo := 0) (hi := 0) (x := 0) rfl) (lw_lit (lo := 2) (hi := 2) (x := 2) rfl) c10 rfl
        have f13 : iv 1 1 (FX12_isIn a3.toInt64 0 2) := iv_nel (isIn_b (x := a3.toInt64) (l := 0) (u := 2)) c10 rfl
        exact SX12_when_54 2000 a0 a1 a2 a3 0 0 (-1) 0 (hs h 0 0 0) I1 f8 f12 (iv_w (c := 0) (d := 1) (iv_lit (lo := 0) (hi := 0) (x := 0) rfl) rfl) (iv_w (c := (-1)) (d := 300) (iv_lit (lo := (-1)) (hi := (-1)) (x := (-1)) rfl) rfl) (iv_w (c := 0) (d := 302) (iv_lit (lo := 0) (hi := 0) (x := 0) rfl) rfl) (mu_0u (iv_lit (lo := 0) (hi := 0) (x := 0) rfl) rfl)

-- X12_isWaking
set_option maxRecDepth 100000 in
set_option maxHeartbeats 4000000 in
theorem SX12_isWaking_105 {z : zT} : ∀ (q : Nat) (x1 : Int32) (x4 : Int32) (x5 : Int32) (h : ph_H), IM z h → iv 1 300 x1 → iv 0 1 x4 → iv 1 301 x5 → 301 - (x5).toInt < ((q : Nat) : Int) → PX12_isWaking_105  q x1 x4 x5 h ∧ iv 0 1 (FX12_isWaking_105  q x1 x4 x5 h) := by
  intro q
  induction q with
  | zero =>
    intro x1 x4 x5 h I f_x1 f_x4 f_x5 mq
    exact mu_zu f_x5 mq rfl
  | succ q ih =>
    intro x1 x4 x5 h I f_x1 f_x4 f_x5 mq
    unfold PX12_isWaking_105 FX12_isWaking_105
    refine sf_if (fun c1 => ?_) (fun c1 => ?_)
    · refine sf_n (iv_bo f_x4) ?_
      exact ⟨trivial, f_x4⟩
    · have f2 : iv 1 299 x5 := iv_ltl f_x5 f_x1 (nle c1) rfl
      have f3 : iv 2 300 x1 := iv_ltr f_x1 f_x5 (nle c1) rfl
      refine sf_if (fun c4 => ?_) (fun c4 => ?_)
      · have f5 : iv 0 0 x4 := iv_eql f_x4 (iv_lit (lo := 0) (hi := 0) (x := 0) rfl) c4 rfl
        unfold PX12_isWaking_147 FX12_isWaking_147
        unfold PX12_isWaking_148 FX12_isWaking_148
        have f6 : iv 2 300 (x5 + 1) := iv_add f2 (iv_lit (lo := 1) (hi := 1) (x := 1) rfl) rfl
        exact ih x1 0 (x5 + 1) h I (iv_w (c := 1) (d := 300) f3 rfl) (iv_w (c := 0) (d := 1) (iv_lit (lo := 0) (hi := 0) (x := 0) rfl) rfl) (iv_w (c := 1) (d := 301) f6 rfl) (mu_up f2 mq rfl)
      · have f7 : iv 1 1 x4 := iv_nel f_x4 c4 rfl
        refine sf_n (iv_in f2 rfl) ?_
        refine sf_if (fun c8 => ?_) (fun c8 => ?_)
        · have f9 : iv 3 3 (h 34 (x5.toNatClampNeg)) := iv_eql (iv_any (h 34 (x5.toNatClampNeg))) (iv_lit (lo := 3) (hi := 3) (x := 3) rfl) c8 rfl
          refine sf_n (iv_in f2 rfl) ?_
          refine sf_n (iv_in f3 rfl) ?_
          refine sf_if (fun c10 => ?_) (fun c10 => ?_)
          · unfold PX12_isWaking_147 FX12_isWaking_147
            unfold PX12_isWaking_148 FX12_isWaking_148
            have f11 : iv 2 300 (x5 + 1) := iv_add f2 (iv_lit (lo := 1) (hi := 1) (x := 1) rfl) rfl
            exact ih x1 0 (x5 + 1) h I (iv_w (c := 1) (d := 300) f3 rfl) (iv_w (c := 0) (d := 1) (iv_lit (lo := 0) (hi := 0) (x := 0) rfl) rfl) (iv_w (c := 1) (d := 301) f11 rfl) (mu_up f2 mq rfl)
          · unfold PX12_isWaking_143 FX12_isWaking_143
            unfold PX12_isWaking_148 FX12_isWaking_148
            have f12 : iv 2 300 (x5 + 1) := iv_add f2 (iv_lit (lo := 1) (hi := 1) (x := 1) rfl) rfl
            exact ih x1 1 (x5 + 1) h I (iv_w (c := 1) (d := 300) f3 rfl) (iv_w (c := 0) (d := 1) (iv_lit (lo := 1) (hi := 1) (x := 1) rfl) rfl) (iv_w (c := 1) (d := 301) f12 rfl) (mu_up f2 mq rfl)
        · unfold PX12_isWaking_143 FX12_isWaking_143
          unfold PX12_isWaking_148 FX12_isWaking_148
          have f13 : iv 2 300 (x5 + 1) := iv_add f2 (iv_lit (lo := 1) (hi := 1) (x := 1) rfl) rfl
          exact ih x1 1 (x5 + 1) h I (iv_w (c := 1) (d := 300) f3 rfl) (iv_w (c := 0) (d := 1) (iv_lit (lo := 1) (hi := 1) (x := 1) rfl) rfl) (iv_w (c := 1) (d := 301) f13 rfl) (mu_up f2 mq rfl)
set_option maxRecDepth 100000 in
set_option maxHeartbeats 4000000 in
theorem SX12_isWaking_53 {z : zT} : ∀ (q : Nat) (x1 : Int32) (x2 : Int32) (x3 : Int32) (x4 : Int32) (h : ph_H), IM z h → iv 1 300 x1 → iv 1 300 x2 → iv 0 300 x3 → iv 1 300 x4 → 300 - (x4).toInt < ((q : Nat) : Int) → PX12_isWaking_53  q x1 x2 x3 x4 h ∧ iv 0 1 (FX12_isWaking_53  q x1 x2 x3 x4 h) := by
  intro q
  induction q with
  | zero =>
    intro x1 x2 x3 x4 h I f_x1 f_x2 f_x3 f_x4 mq
    exact mu_zu f_x4 mq rfl
  | succ q ih =>
    intro x1 x2 x3 x4 h I f_x1 f_x2 f_x3 f_x4 mq
    unfold PX12_isWaking_53 FX12_isWaking_53
    refine sf_if (fun c1 => ?_) (fun c1 => ?_)
    · refine sf_if (fun c2 => ?_) (fun c2 => ?_)
      · have f3 : iv 1 300 x3 := iv_ler f_x3 f_x1 c2 rfl
        unfold PX12_isWaking_98 FX12_isWaking_98
        have f4 : iv 2 301 (x3 + 1) := iv_add f3 (iv_lit (lo := 1) (hi := 1) (x := 1) rfl) rfl
        exact SX12_isWaking_105 2000 x1 0 (x3 + 1) h I f_x1 (iv_w (c := 0) (d := 1) (iv_lit (lo := 0) (hi := 0) (x := 0) rfl) rfl) (iv_w (c := 1) (d := 301) f4 rfl) (mu_0u f4 rfl)
      · have f5 : iv 0 299 x3 := iv_ltl f_x3 f_x1 (nle c2) rfl
        unfold PX12_isWaking_98 FX12_isWaking_98
        have f6 : iv 1 300 (x3 + 1) := iv_add f5 (iv_lit (lo := 1) (hi := 1) (x := 1) rfl) rfl
        exact SX12_isWaking_105 2000 x1 1 (x3 + 1) h I f_x1 (iv_w (c := 0) (d := 1) (iv_lit (lo := 1) (hi := 1) (x := 1) rfl) rfl) (iv_w (c := 1) (d := 301) f6 rfl) (mu_0u f6 rfl)
    · have f7 : iv 1 299 x4 := iv_ltl f_x4 f_x2 (nle c1) rfl
      have f8 : iv 2 300 x2 := iv_ltr f_x2 f_x4 (nle c1) rfl
      refine sf_n (iv_in f7 rfl) ?_
      refine sf_n (iv_in f8 rfl) ?_
      refine sf_if (fun c9 => ?_) (fun c9 => ?_)
      · unfold PX12_isWaking_81 FX12_isWaking_81
        have f10 : iv 2 300 (x4 + 1) := iv_add f7 (iv_lit (lo := 1) (hi := 1) (x := 1) rfl) rfl
        exact ih x1 x2 x4 (x4 + 1) h I f_x1 (iv_w (c := 1) (d := 300) f8 rfl) (iv_w (c := 0) (d := 300) f7 rfl) (iv_w (c := 1) (d := 300) f10 rfl) (mu_up f7 mq rfl)
      · unfold PX12_isWaking_81 FX12_isWaking_81
        have f11 : iv 2 300 (x4 + 1) := iv_add f7 (iv_lit (lo := 1) (hi := 1) (x := 1) rfl) rfl
        exact ih x1 x2 x3 (x4 + 1) h I f_x1 (iv_w (c := 1) (d := 300) f8 rfl) f_x3 (iv_w (c := 1) (d := 300) f11 rfl) (mu_up f7 mq rfl)
set_option maxRecDepth 100000 in
set_option maxHeartbeats 4000000 in
theorem SX12_isWaking {z : zT} (a0 : Int32) (a1 : Int32) (h : ph_H) (I : IM z h) (f_a0 : iv 1 300 a0) (f_a1 : iv 1 300 a1) : PX12_isWaking a0 a1 h ∧ iv 0 1 (FX12_isWaking a0 a1 h) := by
  unfold PX12_isWaking FX12_isWaking
  refine sf_n (iv_in f_a0 rfl) ?_
  refine sf_if (fun c1 => ?_) (fun c1 => ?_)
  · have f2 : iv 3 3 (h 34 (a0.toNatClampNeg)) := iv_eql (iv_any (h 34 (a0.toNatClampNeg))) (iv_lit (lo := 3) (hi := 3) (x := 3) rfl) c1 rfl
    refine sf_n (iv_in f_a1 rfl) ?_
    refine sf_if (fun c3 => ?_) (fun c3 => ?_)
    · have f4 : iv 14 14 (h 31 (a1.toNatClampNeg)) := iv_eql (iv_any (h 31 (a1.toNatClampNeg))) (iv_lit (lo := 14) (hi := 14) (x := 14) rfl) c3 rfl
      refine sf_n (iv_in f_a1 rfl) ?_
      refine sf_if (fun c5 => ?_) (fun c5 => ?_)
      · have f6 : iv 1 1 (h 34 (a1.toNatClampNeg)) := iv_eql (iv_any (h 34 (a1.toNatClampNeg))) (iv_lit (lo := 1) (hi := 1) (x := 1) rfl) c5 rfl
        refine sf_n (iv_in f_a0 rfl) ?_
        refine sf_n (iv_in f_a1 rfl) ?_
        refine sf_if (fun c7 => ?_) (fun c7 => ?_)
        · exact SX12_isWaking_53 2000 a0 a1 0 1 h I f_a0 f_a1 (iv_w (c := 0) (d := 300) (iv_lit (lo := 0) (hi := 0) (x := 0) rfl) rfl) (iv_w (c := 1) (d := 300) (iv_lit (lo := 1) (hi := 1) (x := 1) rfl) rfl) (mu_0u (iv_lit (lo := 1) (hi := 1) (x := 1) rfl) rfl)
        · exact ⟨trivial, (iv_w (c := 0) (d := 1) (iv_lit (lo := 0) (hi := 0) (x := 0) rfl) rfl)⟩
      · exact ⟨trivial, (iv_w (c := 0) (d := 1) (iv_lit (lo := 0) (hi := 0) (x := 0) rfl) rfl)⟩
    · exact ⟨trivial, (iv_w (c := 0) (d := 1) (iv_lit (lo := 0) (hi := 0) (x := 0) rfl) rfl)⟩
  · exact ⟨trivial, (iv_w (c := 0) (d := 1) (iv_lit (lo := 0) (hi := 0) (x := 0) rfl) rfl)⟩

-- X12_isDirect
set_option maxRecDepth 100000 in
set_option maxHeartbeats 4000000 in
theorem SX12_isDirect {z : zT} (a0 : Int32) (a1 : Int32) (h : ph_H) (I : IM z h) (f_a0 : iv 1 300 a0) (f_a1 : iv 1 300 a1) : PX12_isDirect a0 a1 h ∧ iv 0 1 (FX12_isDirect a0 a1 h) := by
  unfold PX12_isDirect FX12_isDirect
  refine sf_n (iv_in f_a0 rfl) ?_
  refine sf_n (iv_in f_a1 rfl) ?_
  refine sf_if (fun c1 => ?_) (fun c1 => ?_)
  · exact ⟨trivial, (iv_w (c := 0) (d := 1) (iv_lit (lo := 1) (hi := 1) (x := 1) rfl) rfl)⟩
  · refine sf_n (iv_in f_a0 rfl) ?_
    refine sf_if (fun c2 => ?_) (fun c2 => ?_)
    · have f3 : iv 2 2 (h 34 (a0.toNatClampNeg)) := iv_eql (iv_any (h 34 (a0.toNatClampNeg))) (iv_lit (lo := 2) (hi := 2) (x := 2) rfl) c2 rfl
      refine sf_n (iv_in f_a1 rfl) ?_
      refine sf_if (fun c4 => ?_) (fun c4 => ?_)
      · have f5 : iv 1 1 (h 34 (a1.toNatClampNeg)) := iv_eql (iv_any (h 34 (a1.toNatClampNeg))) (iv_lit (lo := 1) (hi := 1) (x := 1) rfl) c4 rfl
        refine sf_n (iv_in f_a0 rfl) ?_
        refine sf_n (iv_in f_a1 rfl) ?_
        refine sf_if (fun c6 => ?_) (fun c6 => ?_)
        · unfold PX12_isDirect_57 FX12_isDirect_57
          refine sf_n (iv_in f_a0 rfl) ?_
          refine sf_if (fun c7 => ?_) (fun c7 => ?_)
          · have f8 : iv 4 2 (h 34 (a0.toNatClampNeg)) := iv_eql f3 (iv_lit (lo := 4) (hi := 4) (x := 4) rfl) c7 rfl
            exact iv_no f8 rfl
          · unfold PX12_isDirect_87 FX12_isDirect_87
            unfold PX12_isDirect_88 FX12_isDirect_88
            refine sf_if (fun c9 => ?_) (fun c9 => ?_)
            · have f10 : iv 1 0 1 := iv_eql (iv_lit (lo := 1) (hi := 1) (x := 1) rfl) (iv_lit (lo := 0) (hi := 0) (x := 0) rfl) c9 rfl
              exact iv_no f10 rfl
            · unfold PX12_isDirect_108 FX12_isDirect_108
              exact ⟨trivial, (iv_w (c := 0) (d := 1) (iv_lit (lo := 1) (hi := 1) (x := 1) rfl) rfl)⟩
        · unfold PX12_isDirect_56 FX12_isDirect_56
          unfold PX12_isDirect_57 FX12_isDirect_57
          refine sf_n (iv_in f_a0 rfl) ?_
          refine sf_if (fun c11 => ?_) (fun c11 => ?_)
          · have f12 : iv 4 2 (h 34 (a0.toNatClampNeg)) := iv_eql f3 (iv_lit (lo := 4) (hi := 4) (x := 4) rfl) c11 rfl
            exact iv_no f12 rfl
          · unfold PX12_isDirect_87 FX12_isDirect_87
            unfold PX12_isDirect_88 FX12_isDirect_88
            refine sf_if (fun c13 => ?_) (fun c13 => ?_)
            · refine sf_if (fun c14 => ?_) (fun c14 => ?_)
              · have s15 := SX12_isWaking (z := z) a0 a1 h I f_a0 f_a1
                refine sf_n s15.1 ?_
                refine sf_if (fun c16 => ?_) (fun c16 => ?_)
                · have f17 : iv 0 0 (FX12_isWaking a0 a1 h) := iv_eql s15.2 (iv_lit (lo := 0) (hi := 0) (x := 0) rfl) c16 rfl
                  exact ⟨trivial, (iv_w (c := 0) (d := 1) (iv_lit (lo := 0) (hi := 0) (x := 0) rfl) rfl)⟩
                · have f18 : iv 1 1 (FX12_isWaking a0 a1 h) := iv_nel s15.2 c16 rfl
                  unfold PX12_isDirect_108 FX12_isDirect_108
                  exact ⟨trivial, (iv_w (c := 0) (d := 1) (iv_lit (lo := 1) (hi := 1) (x := 1) rfl) rfl)⟩
              · exact absurd rfl c14
            · exact absurd rfl c13
      · unfold PX12_isDirect_56 FX12_isDirect_56
        unfold PX12_isDirect_57 FX12_isDirect_57
        refine sf_n (iv_in f_a0 rfl) ?_
        refine sf_if (fun c19 => ?_) (fun c19 => ?_)
        · have f20 : iv 4 2 (h 34 (a0.toNatClampNeg)) := iv_eql f3 (iv_lit (lo := 4) (hi := 4) (x := 4) rfl) c19 rfl
          exact iv_no f20 rfl
        · unfold PX12_isDirect_87 FX12_isDirect_87
          unfold PX12_isDirect_88 FX12_isDirect_88
          refine sf_if (fun c21 => ?_) (fun c21 => ?_)
          · refine sf_if (fun c22 => ?_) (fun c22 => ?_)
            · have s23 := SX12_isWaking (z := z) a0 a1 h I f_a0 f_a1
              refine sf_n s23.1 ?_
              refine sf_if (fun c24 => ?_) (fun c24 => ?_)
              · have f25 : iv 0 0 (FX12_isWaking a0 a1 h) := iv_eql s23.2 (iv_lit (lo := 0) (hi := 0) (x := 0) rfl) c24 rfl
                exact ⟨trivial, (iv_w (c := 0) (d := 1) (iv_lit (lo := 0) (hi := 0) (x := 0) rfl) rfl)⟩
              · have f26 : iv 1 1 (FX12_isWaking a0 a1 h) := iv_nel s23.2 c24 rfl
                unfold PX12_isDirect_108 FX12_isDirect_108
                exact ⟨trivial, (iv_w (c := 0) (d := 1) (iv_lit (lo := 1) (hi := 1) (x := 1) rfl) rfl)⟩
            · exact absurd rfl c22
          · exact absurd rfl c21
    · unfold PX12_isDirect_56 FX12_isDirect_56
      unfold PX12_isDirect_57 FX12_isDirect_57
      refine sf_n (iv_in f_a0 rfl) ?_
      refine sf_if (fun c27 => ?_) (fun c27 => ?_)
      · have f28 : iv 4 4 (h 34 (a0.toNatClampNeg)) := iv_eql (iv_any (h 34 (a0.toNatClampNeg))) (iv_lit (lo := 4) (hi := 4) (x := 4) rfl) c27 rfl
        refine sf_n (iv_in f_a0 rfl) ?_
        refine sf_n (iv_in f_a1 rfl) ?_
        refine sf_if (fun c29 => ?_) (fun c29 => ?_)
        · unfold PX12_isDirect_88 FX12_isDirect_88
          refine sf_if (fun c30 => ?_) (fun c30 => ?_)
          · refine sf_if (fun c31 => ?_) (fun c31 => ?_)
            · have f32 : iv 1 0 1 := iv_eql (iv_lit (lo := 1) (hi := 1) (x := 1) rfl) (iv_lit (lo := 0) (hi := 0) (x := 0) rfl) c31 rfl
              exact iv_no f32 rfl
            · unfold PX12_isDirect_108 FX12_isDirect_108
              exact ⟨trivial, (iv_w (c := 0) (d := 1) (iv_lit (lo := 1) (hi := 1) (x := 1) rfl) rfl)⟩
          · exact absurd rfl c30
        · unfold PX12_isDirect_87 FX12_isDirect_87
          unfold PX12_isDirect_88 FX12_isDirect_88
          refine sf_if (fun c33 => ?_) (fun c33 => ?_)
          · refine sf_if (fun c34 => ?_) (fun c34 => ?_)
            · have s35 := SX12_isWaking (z := z) a0 a1 h I f_a0 f_a1
              refine sf_n s35.1 ?_
              refine sf_if (fun c36 => ?_) (fun c36 => ?_)
              · have f37 : iv 0 0 (FX12_isWaking a0 a1 h) := iv_eql s35.2 (iv_lit (lo := 0) (hi := 0) (x := 0) rfl) c36 rfl
                exact ⟨trivial, (iv_w (c := 0) (d := 1) (iv_lit (lo := 0) (hi := 0) (x := 0) rfl) rfl)⟩
              · have f38 : iv 1 1 (FX12_isWaking a0 a1 h) := iv_nel s35.2 c36 rfl
                unfold PX12_isDirect_108 FX12_isDirect_108
                exact ⟨trivial, (iv_w (c := 0) (d := 1) (iv_lit (lo := 1) (hi := 1) (x := 1) rfl) rfl)⟩
            · exact absurd rfl c34
          · exact absurd rfl c33
      · unfold PX12_isDirect_87 FX12_isDirect_87
        unfold PX12_isDirect_88 FX12_isDirect_88
        refine sf_if (fun c39 => ?_) (fun c39 => ?_)
        · refine sf_if (fun c40 => ?_) (fun c40 => ?_)
          · have s41 := SX12_isWaking (z := z) a0 a1 h I f_a0 f_a1
            refine sf_n s41.1 ?_
            refine sf_if (fun c42 => ?_) (fun c42 => ?_)
            · have f43 : iv 0 0 (FX12_isWaking a0 a1 h) := iv_eql s41.2 (iv_lit (lo := 0) (hi := 0) (x := 0) rfl) c42 rfl
              exact ⟨trivial, (iv_w (c := 0) (d := 1) (iv_lit (lo := 0) (hi := 0) (x := 0) rfl) rfl)⟩
            · have f44 : iv 1 1 (FX12_isWaking a0 a1 h) := iv_nel s41.2 c42 rfl
              unfold PX12_isDirect_108 FX12_isDirect_108
              exact ⟨trivial, (iv_w (c := 0) (d := 1) (iv_lit (lo := 1) (hi := 1) (x := 1) rfl) rfl)⟩
          · exact absurd rfl c40
        · exact absurd rfl c39

-- X12_findAhead
set_option maxRecDepth 100000 in
set_option maxHeartbeats 4000000 in
theorem SX12_findAhead_96 {z : zT} (L15 : Int32 → ph_H → ph_H) (LP15 : Int32 → ph_H → Prop) (q15 : Nat) (hL15 : ∀ (x1 : Int32) (h : ph_H), IM z h → iv 1 301 x1 → 301 - (x1).toInt < ((q15 : Nat) : Int) → LP15 x1 h ∧ IM z (L15 x1 h)) (L53 : Int32 → Int32 → ph_H → ph_H) (LP53 : Int32 → Int32 → ph_H → Prop) (q53 : Nat) (hL53 : ∀ (x1 : Int32) (x2 : Int32) (h : ph_H), IM z h → iv 1 300 x1 → iv 0 299 x2 → 301 - (x1).toInt < ((q15 + 1 : Nat) : Int) → (x2).toInt - 0 < ((q53 : Nat) : Int) → LP53 x1 x2 h ∧ IM z (L53 x1 x2 h)) : ∀ (q : Nat) (x1 : Int32) (x2 : Int32) (x3 : Int32) (h : ph_H), IM z h → iv 1 300 x1 → iv 1 300 x2 → iv 1 300 x3 → 301 - (x1).toInt < ((q15 + 1 : Nat) : Int) → (x2).toInt - 0 < ((q53 + 1 : Nat) : Int) → 300 - (x3).toInt < ((q : Nat) : Int) → PX12_findAhead_96 LP15 LP53 q x1 x2 x3 h ∧ IM z (FX12_findAhead_96 L15 L53 q x1 x2 x3 h) := by
  intro q
  induction q with
  | zero =>
    intro x1 x2 x3 h I f_x1 f_x2 f_x3 m15 m53 mq
    exact mu_zu f_x3 mq rfl
  | succ q ih =>
    intro x1 x2 x3 h I f_x1 f_x2 f_x3 m15 m53 mq
    unfold PX12_findAhead_96 FX12_findAhead_96
    refine sf_if (fun c1 => ?_) (fun c1 => ?_)
    · unfold PX12_findAhead_154 FX12_findAhead_154
      have f2 : iv 0 299 (x2 + (-1)) := iv_add f_x2 (iv_lit (lo := (-1)) (hi := (-1)) (x := (-1)) rfl) rfl
      exact hL53 x1 (x2 + (-1)) h I f_x1 f2 m15 (mu_dn f_x2 m53 rfl)
    · have f3 : iv 1 299 x3 := iv_ltl f_x3 f_x2 (nle c1) rfl
      have f4 : iv 2 300 x2 := iv_ltr f_x2 f_x3 (nle c1) rfl
      have f5 : iv 301 89999 (301 * x3) := iv_mul (c := 301) rfl f3 rfl
      have f6 : iv 302 90299 ((301 * x3) + x1) := iv_add f5 f_x1 rfl
      refine sf_n (iv_in f6 rfl) ?_
      have f7 : iv 0 1 (h 39 (((301 * x3) + x1).toNatClampNeg)) := IMv I 39 _
      refine sf_if (fun c8 => ?_) (fun c8 => ?_)
      · have f9 : iv 0 0 (h 39 (((301 * x3) + x1).toNatClampNeg)) := iv_eql f7 (iv_lit (lo := 0) (hi := 0) (x := 0) rfl) c8 rfl
        have f10 : iv 303 90299 ((301 * x3) + x2) := iv_add f5 f4 rfl
        refine sf_n (iv_in f10 rfl) ?_
        have f11 : iv 0 1 (h 39 (((301 * x3) + x2).toNatClampNeg)) := IMv I 39 _
        refine sf_if (fun c12 => ?_) (fun c12 => ?_)
        · have f13 : iv 0 0 (h 39 (((301 * x3) + x2).toNatClampNeg)) := iv_eql f11 (iv_lit (lo := 0) (hi := 0) (x := 0) rfl) c12 rfl
          unfold PX12_findAhead_147 FX12_findAhead_147
          refine sf_n (iv_in f6 rfl) ?_
          have I14 : IM z (hs h 39 ((301 * x3) + x1).toNatClampNeg (vp_nar .boolean 0)) := IMs I (k := 39) (i := ((301 * x3) + x1).toNatClampNeg) (v := (vp_nar .boolean 0)) (nar_z 0) rfl
          have f15 : iv 2 300 (x3 + 1) := iv_add f3 (iv_lit (lo := 1) (hi := 1) (x := 1) rfl) rfl
          exact ih x1 x2 (x3 + 1) (hs h 39 ((301 * x3) + x1).toNatClampNeg (vp_nar .boolean 0)) I14 f_x1 (iv_w (c := 1) (d := 300) f4 rfl) (iv_w (c := 1) (d := 300) f15 rfl) m15 m53 (mu_up f3 mq rfl)
        · have f16 : iv 1 1 (h 39 (((301 * x3) + x2).toNatClampNeg)) := iv_nel f11 c12 rfl
          unfold PX12_findAhead_142 FX12_findAhead_142
          unfold PX12_findAhead_147 FX12_findAhead_147
          refine sf_n (iv_in f6 rfl) ?_
          have I17 : IM z (hs h 39 ((301 * x3) + x1).toNatClampNeg (vp_nar .boolean 1)) := IMs I (k := 39) (i := ((301 * x3) + x1).toNatClampNeg) (v := (vp_nar .boolean 1)) (nar_z 1) rfl
          have f18 : iv 2 300 (x3 + 1) := iv_add f3 (iv_lit (lo := 1) (hi := 1) (x := 1) rfl) rfl
          exact ih x1 x2 (x3 + 1) (hs h 39 ((301 * x3) + x1).toNatClampNeg (vp_nar .boolean 1)) I17 f_x1 (iv_w (c := 1) (d := 300) f4 rfl) (iv_w (c := 1) (d := 300) f18 rfl) m15 m53 (mu_up f3 mq rfl)
      · have f19 : iv 1 1 (h 39 (((301 * x3) + x1).toNatClampNeg)) := iv_nel f7 c8 rfl
        unfold PX12_findAhead_142 FX12_findAhead_142
        unfold PX12_findAhead_147 FX12_findAhead_147
        refine sf_n (iv_in f6 rfl) ?_
        have I20 : IM z (hs h 39 ((301 * x3) + x1).toNatClampNeg (vp_nar .boolean 1)) := IMs I (k := 39) (i := ((301 * x3) + x1).toNatClampNeg) (v := (vp_nar .boolean 1)) (nar_z 1) rfl
        have f21 : iv 2 300 (x3 + 1) := iv_add f3 (iv_lit (lo := 1) (hi := 1) (x := 1) rfl) rfl
        exact ih x1 x2 (x3 + 1) (hs h 39 ((301 * x3) + x1).toNatClampNeg (vp_nar .boolean 1)) I20 f_x1 (iv_w (c := 1) (d := 300) f4 rfl) (iv_w (c := 1) (d := 300) f21 rfl) m15 m53 (mu_up f3 mq rfl)
set_option maxRecDepth 100000 in
set_option maxHeartbeats 4000000 in
theorem SX12_findAhead_53 {z : zT} (L15 : Int32 → ph_H → ph_H) (LP15 : Int32 → ph_H → Prop) (q15 : Nat) (hL15 : ∀ (x1 : Int32) (h : ph_H), IM z h → iv 1 301 x1 → 301 - (x1).toInt < ((q15 : Nat) : Int) → LP15 x1 h ∧ IM z (L15 x1 h)) : ∀ (q : Nat) (x1 : Int32) (x2 : Int32) (h : ph_H), IM z h → iv 1 300 x1 → iv 0 299 x2 → 301 - (x1).toInt < ((q15 + 1 : Nat) : Int) → (x2).toInt - 0 < ((q : Nat) : Int) → PX12_findAhead_53 LP15 q x1 x2 h ∧ IM z (FX12_findAhead_53 L15 q x1 x2 h) := by
  intro q
  induction q with
  | zero =>
    intro x1 x2 h I f_x1 f_x2 m15 mq
    exact mu_zd f_x2 mq rfl
  | succ q ih =>
    intro x1 x2 h I f_x1 f_x2 m15 mq
    unfold PX12_findAhead_53 FX12_findAhead_53
    refine sf_if (fun c1 => ?_) (fun c1 => ?_)
    · have f2 : iv 0 0 x2 := iv_lel f_x2 (iv_lit (lo := 0) (hi := 0) (x := 0) rfl) c1 rfl
      have f3 : iv 2 301 (x1 + 1) := iv_add f_x1 (iv_lit (lo := 1) (hi := 1) (x := 1) rfl) rfl
      exact hL15 (x1 + 1) h I (iv_w (c := 1) (d := 301) f3 rfl) (mu_up f_x1 m15 rfl)
    · have f4 : iv 1 299 x2 := iv_ltr f_x2 (iv_lit (lo := 0) (hi := 0) (x := 0) rfl) (nle c1) rfl
      have f5 : iv 301 89999 (301 * x2) := iv_mul (c := 301) rfl f4 rfl
      have f6 : iv 302 90299 ((301 * x2) + x1) := iv_add f5 f_x1 rfl
      refine sf_n (iv_in f6 rfl) ?_
      have f7 : iv 0 1 (h 39 (((301 * x2) + x1).toNatClampNeg)) := IMv I 39 _
      refine sf_if (fun c8 => ?_) (fun c8 => ?_)
      · have f9 : iv 0 0 (h 39 (((301 * x2) + x1).toNatClampNeg)) := iv_eql f7 (iv_lit (lo := 0) (hi := 0) (x := 0) rfl) c8 rfl
        have s10 := SX12_isDirect (z := z) x2 x1 h I (iv_w (c := 1) (d := 300) f4 rfl) f_x1
        refine sf_n s10.1 ?_
        refine sf_if (fun c11 => ?_) (fun c11 => ?_)
        · have f12 : iv 0 0 (FX12_isDirect x2 x1 h) := iv_eql s10.2 (iv_lit (lo := 0) (hi := 0) (x := 0) rfl) c11 rfl
          unfold PX12_findAhead_154 FX12_findAhead_154
          have f13 : iv 0 298 (x2 + (-1)) := iv_add f4 (iv_lit (lo := (-1)) (hi := (-1)) (x := (-1)) rfl) rfl
          exact ih x1 (x2 + (-1)) h I f_x1 (iv_w (c := 0) (d := 299) f13 rfl) m15 (mu_dn f4 mq rfl)
        · have f14 : iv 1 1 (FX12_isDirect x2 x1 h) := iv_nel s10.2 c11 rfl
          refine sf_n (iv_in f6 rfl) ?_
          have I15 : IM z (hs h 39 ((301 * x2) + x1).toNatClampNeg (vp_nar .boolean 1)) := IMs I (k := 39) (i := ((301 * x2) + x1).toNatClampNeg) (v := (vp_nar .boolean 1)) (nar_z 1) rfl
          exact SX12_findAhead_96 L15 LP15 q15 hL15 (FX12_findAhead_53 L15 q) (PX12_findAhead_53 LP15 q) q (fun x1 x2 h p0 p1 p2 o15 pm => ih x1 x2 h p0 p1 p2 o15 pm) 2000 x1 x2 1 (hs h 39 ((301 * x2) + x1).toNatClampNeg (vp_nar .boolean 1)) I15 f_x1 (iv_w (c := 1) (d := 300) f4 rfl) (iv_w (c := 1) (d := 300) (iv_lit (lo := 1) (hi := 1) (x := 1) rfl) rfl) m15 mq (mu_0u (iv_lit (lo := 1) (hi := 1) (x := 1) rfl) rfl)
      · have f16 : iv 1 1 (h 39 (((301 * x2) + x1).toNatClampNeg)) := iv_nel f7 c8 rfl
        unfold PX12_findAhead_154 FX12_findAhead_154
        have f17 : iv 0 298 (x2 + (-1)) := iv_add f4 (iv_lit (lo := (-1)) (hi := (-1)) (x := (-1)) rfl) rfl
        exact ih x1 (x2 + (-1)) h I f_x1 (iv_w (c := 0) (d := 299) f17 rfl) m15 (mu_dn f4 mq rfl)
set_option maxRecDepth 100000 in
set_option maxHeartbeats 4000000 in
theorem SX12_findAhead_25 {z : zT} (L15 : Int32 → ph_H → ph_H) (LP15 : Int32 → ph_H → Prop) (q15 : Nat) (hL15 : ∀ (x1 : Int32) (h : ph_H), IM z h → iv 1 301 x1 → 301 - (x1).toInt < ((q15 : Nat) : Int) → LP15 x1 h ∧ IM z (L15 x1 h)) : ∀ (q : Nat) (x1 : Int32) (x2 : Int32) (h : ph_H), IM z h → iv 1 300 x1 → iv 1 300 x2 → 301 - (x1).toInt < ((q15 + 1 : Nat) : Int) → 300 - (x2).toInt < ((q : Nat) : Int) → PX12_findAhead_25 LP15 q x1 x2 h ∧ IM z (FX12_findAhead_25 L15 q x1 x2 h) := by
  intro q
  induction q with
  | zero =>
    intro x1 x2 h I f_x1 f_x2 m15 mq
    exact mu_zu f_x2 mq rfl
  | succ q ih =>
    intro x1 x2 h I f_x1 f_x2 m15 mq
    unfold PX12_findAhead_25 FX12_findAhead_25
    refine sf_if (fun c1 => ?_) (fun c1 => ?_)
    · have f2 : iv 0 299 (x1 - 1) := iv_sub f_x1 (iv_lit (lo := 1) (hi := 1) (x := 1) rfl) rfl
      exact SX12_findAhead_53 L15 LP15 q15 hL15 2000 x1 (x1 - 1) h I f_x1 f2 m15 (mu_0d f2 rfl)
    · have f3 : iv 1 299 x2 := iv_ltl f_x2 f_x1 (nle c1) rfl
      have f4 : iv 2 300 x1 := iv_ltr f_x1 f_x2 (nle c1) rfl
      have f5 : iv 301 89999 (301 * x2) := iv_mul (c := 301) rfl f3 rfl
      have f6 : iv 303 90299 ((301 * x2) + x1) := iv_add f5 f4 rfl
      refine sf_n (iv_in f6 rfl) ?_
      have I7 : IM z (hs h 39 ((301 * x2) + x1).toNatClampNeg (vp_nar .boolean 0)) := IMs I (k := 39) (i := ((301 * x2) + x1).toNatClampNeg) (v := (vp_nar .boolean 0)) (nar_z 0) rfl
      have f8 : iv 2 300 (x2 + 1) := iv_add f3 (iv_lit (lo := 1) (hi := 1) (x := 1) rfl) rfl
      exact ih x1 (x2 + 1) (hs h 39 ((301 * x2) + x1).toNatClampNeg (vp_nar .boolean 0)) I7 (iv_w (c := 1) (d := 300) f4 rfl) (iv_w (c := 1) (d := 300) f8 rfl) m15 (mu_up f3 mq rfl)
set_option maxRecDepth 100000 in
set_option maxHeartbeats 4000000 in
theorem SX12_findAhead_15 {z : zT} : ∀ (q : Nat) (x1 : Int32) (h : ph_H), IM z h → iv 1 301 x1 → 301 - (x1).toInt < ((q : Nat) : Int) → PX12_findAhead_15  q x1 h ∧ IM z (FX12_findAhead_15  q x1 h) := by
  intro q
  induction q with
  | zero =>
    intro x1 h I f_x1 mq
    exact mu_zu f_x1 mq rfl
  | succ q ih =>
    intro x1 h I f_x1 mq
    unfold PX12_findAhead_15 FX12_findAhead_15
    have f1 : iv 0 300 (h 0 38) := IMv I 0 _
    refine sf_if (fun c2 => ?_) (fun c2 => ?_)
    · exact ⟨trivial, I⟩
    · have f3 : iv 1 300 x1 := iv_lel f_x1 f1 (nlt c2) rfl
      have f4 : iv 1 300 (h 0 38) := iv_ler f1 f_x1 (nlt c2) rfl
      exact SX12_findAhead_25 (FX12_findAhead_15  q) (PX12_findAhead_15  q) q (fun x1 h p0 p1 pm => ih x1 h p0 p1 pm) 2000 x1 1 h I f3 (iv_w (c := 1) (d := 300) (iv_lit (lo := 1) (hi := 1) (x := 1) rfl) rfl) mq (mu_0u (iv_lit (lo := 1) (hi := 1) (x := 1) rfl) rfl)
set_option maxRecDepth 100000 in
set_option maxHeartbeats 4000000 in
theorem SX12_findAhead {z : zT} (h : ph_H) (I : IM z h) : PX12_findAhead h ∧ IM z (FX12_findAhead h) := by
  unfold PX12_findAhead FX12_findAhead
  have f1 : iv 0 1 (h 0 64) := IMv I 0 _
  refine sf_if (fun c2 => ?_) (fun c2 => ?_)
  · have f3 : iv 0 0 (h 0 64) := iv_eql f1 (iv_lit (lo := 0) (hi := 0) (x := 0) rfl) c2 rfl
    have I4 : IM z (hs h 0 64 1) := IMs I (k := 0) (i := 64) (v := 1) (iv_w (c := 0) (d := 1) (iv_lit (lo := 1) (hi := 1) (x := 1) rfl) rfl) rfl
    exact SX12_findAhead_15 2000 1 (hs h 0 64 1) I4 (iv_w (c := 1) (d := 301) (iv_lit (lo := 1) (hi := 1) (x := 1) rfl) rfl) (mu_0u (iv_lit (lo := 1) (hi := 1) (x := 1) rfl) rfl)
  · have f5 : iv 1 1 (h 0 64) := iv_nel f1 c2 rfl
    exact ⟨trivial, I⟩

-- X12_ahead
set_option maxRecDepth 100000 in
set_option maxHeartbeats 4000000 in
theorem SX12_ahead {z : zT} (a0 : Int32) (a1 : Int32) (h : ph_H) (I : IM z h) : PX12_ahead a0 a1 h ∧ Qi z (-2) 1 (FX12_ahead a0 a1 h) := by
  unfold PX12_ahead FX12_ahead
  have I1 : IM z (hs h 0 0 0) := IMs I (k := 0) (i := 0) (v := 0) (iv_any 0) rfl
  have f2 : iv 0 1 (h 0 36) := IMv I 0 _
  refine sf_if (fun c3 => ?_) (fun c3 => ?_)
  · have f4 : iv 0 0 (h 0 36) := iv_eql f2 (iv_lit (lo := 0) (hi := 0) (x := 0) rfl) c3 rfl
    exact ⟨trivial, Qi_mk (iv_w (c := (-2)) (d := 1) (iv_lit (lo := (-2)) (hi := (-2)) (x := (-2)) rfl) rfl) I1⟩
  · have f5 : iv 1 1 (h 0 36) := iv_nel f2 c3 rfl
    have f6 : iv 0 300 (h 0 38) := IMv I 0 _
    refine sf_n isIn_p ?_
    refine sf_if (fun c7 => ?_) (fun c7 => ?_)
    · have f8 : iv 0 0 (FX12_isIn a1.toInt64 1 ((h 0 38).toInt64)) := iv_eql (isIn_b (x := a1.toInt64) (l := 1) (u := (h 0 38).toInt64)) (iv_lit (lo := 0) (hi := 0) (x := 0) rfl) c7 rfl
      exact ⟨trivial, Qi_mk (iv_w (c := (-2)) (d := 1) (iv_lit (lo := (-1)) (hi := (-1)) (x := (-1)) rfl) rfl) I1⟩
    · have f9 : iv 1 300 a1 := isIn_iv (iv_any a1) (lw_lit (lo := 1) (hi := 1) (x := 1) rfl) (lw_of f6) c7 rfl
      have f10 : iv 1 1 (FX12_isIn a1.toInt64 1 ((h 0 38).toInt64)) := iv_nel (isIn_b (x := a1.toInt64) (l := 1) (u := (h 0 38).toInt64)) c7 rfl
      have f11 : iv 0 299 (a1 - 1) := iv_sub f9 (iv_lit (lo := 1) (hi := 1) (x := 1) rfl) rfl
      refine sf_n isIn_p ?_
      refine sf_if (fun c12 => ?_) (fun c12 => ?_)
      · have f13 : iv 0 0 (FX12_isIn a0.toInt64 1 ((a1 - 1).toInt64)) := iv_eql (isIn_b (x := a0.toInt64) (l := 1) (u := (a1 - 1).toInt64)) (iv_lit (lo := 0) (hi := 0) (x := 0) rfl) c12 rfl
        exact ⟨trivial, Qi_mk (iv_w (c := (-2)) (d := 1) (iv_lit (lo := (-1)) (hi := (-1)) (x := (-1)) rfl) rfl) I1⟩
      · have f14 : iv 1 299 a0 := isIn_iv (iv_any a0) (lw_lit (lo := 1) (hi := 1) (x := 1) rfl) (lw_of f11) c12 rfl
        have f15 : iv 1 1 (FX12_isIn a0.toInt64 1 ((a1 - 1).toInt64)) := iv_nel (isIn_b (x := a0.toInt64) (l := 1) (u := (a1 - 1).toInt64)) c12 rfl
        have s16 := SX12_findAhead (z := z) (hs h 0 0 0) I1
        refine sf_n s16.1 ?_
        unfold PX12_ahead_48 FX12_ahead_48
        have f17 : iv 301 89999 (301 * a0) := iv_mul (c := 301) rfl f14 rfl
        have f18 : iv 302 90299 ((301 * a0) + a1) := iv_add f17 f9 rfl
        refine sf_n (iv_in f18 rfl) ?_
        have f19 : iv 0 1 ((FX12_findAhead (hs h 0 0 0)) 39 (((301 * a0) + a1).toNatClampNeg)) := IMv s16.2 39 _
        refine sf_if (fun c20 => ?_) (fun c20 => ?_)
        · have f21 : iv 0 0 ((FX12_findAhead (hs h 0 0 0)) 39 (((301 * a0) + a1).toNatClampNeg)) := iv_eql f19 (iv_lit (lo := 0) (hi := 0) (x := 0) rfl) c20 rfl
          exact ⟨trivial, Qi_mk (iv_w (c := (-2)) (d := 1) (iv_lit (lo := 0) (hi := 0) (x := 0) rfl) rfl) s16.2⟩
        · have f22 : iv 1 1 ((FX12_findAhead (hs h 0 0 0)) 39 (((301 * a0) + a1).toNatClampNeg)) := iv_nel f19 c20 rfl
          exact ⟨trivial, Qi_mk (iv_w (c := (-2)) (d := 1) (iv_lit (lo := 1) (hi := 1) (x := 1) rfl) rfl) s16.2⟩

-- X12_racing
set_option maxRecDepth 100000 in
set_option maxHeartbeats 4000000 in
theorem SX12_racing {z : zT} (a0 : Int32) (a1 : Int32) (h : ph_H) (I : IM z h) (f_a0 : iv 1 300 a0) (f_a1 : iv 1 300 a1) : PX12_racing a0 a1 h ∧ iv (-1) 2147483647 (FX12_racing a0 a1 h) := by
  unfold PX12_racing FX12_racing
  refine sf_n (iv_in f_a0 rfl) ?_
  refine sf_n (iv_in f_a1 rfl) ?_
  refine sf_if (fun c1 => ?_) (fun c1 => ?_)
  · exact ⟨trivial, (iv_w (c := (-1)) (d := 2147483647) (iv_lit (lo := (-1)) (hi := (-1)) (x := (-1)) rfl) rfl)⟩
  · have f2 : iv 301 90300 (301 * a0) := iv_mul (c := 301) rfl f_a0 rfl
    have f3 : iv 302 90600 ((301 * a0) + a1) := iv_add f2 f_a1 rfl
    refine sf_n (iv_in f3 rfl) ?_
    have f4 : iv 0 1 (h 39 (((301 * a0) + a1).toNatClampNeg)) := IMv I 39 _
    refine sf_if (fun c5 => ?_) (fun c5 => ?_)
    · have f6 : iv 0 0 (h 39 (((301 * a0) + a1).toNatClampNeg)) := iv_eql f4 (iv_lit (lo := 0) (hi := 0) (x := 0) rfl) c5 rfl
      refine sf_n (iv_in f_a0 rfl) ?_
      refine sf_if (fun c7 => ?_) (fun c7 => ?_)
      · have f8 : iv (-2147483648) (-1) (h 33 (a0.toNatClampNeg)) := iv_ltl (iv_any (h 33 (a0.toNatClampNeg))) (iv_lit (lo := 0) (hi := 0) (x := 0) rfl) c7 rfl
        refine sf_n (iv_in f_a0 rfl) ?_
        unfold PX12_racing_56 FX12_racing_56
        refine sf_n (iv_in f_a0 rfl) ?_
        refine sf_if (fun c9 => ?_) (fun c9 => ?_)
        · have f10 : iv 0 (-1) 0 := iv_lel (iv_lit (lo := 0) (hi := 0) (x := 0) rfl) f8 c9 rfl
          exact iv_no f10 rfl
        · refine sf_n (iv_in f_a1 rfl) ?_
          refine sf_if (fun c11 => ?_) (fun c11 => ?_)
          · have f12 : iv (-2147483648) (-1) (h 33 (a1.toNatClampNeg)) := iv_ltl (iv_any (h 33 (a1.toNatClampNeg))) (iv_lit (lo := 0) (hi := 0) (x := 0) rfl) c11 rfl
            unfold PX12_racing_80 FX12_racing_80
            refine sf_if (fun c13 => ?_) (fun c13 => ?_)
            · have f14 : iv (-2147483648) (-1) (h 32 (a0.toNatClampNeg)) := iv_ltl (iv_any (h 32 (a0.toNatClampNeg))) (iv_lit (lo := 0) (hi := 0) (x := 0) rfl) c13 rfl
              exact ⟨trivial, (iv_w (c := (-1)) (d := 2147483647) (iv_lit (lo := (-1)) (hi := (-1)) (x := (-1)) rfl) rfl)⟩
            · have f15 : iv 0 2147483647 (h 32 (a0.toNatClampNeg)) := iv_ler (iv_any (h 32 (a0.toNatClampNeg))) (iv_lit (lo := 0) (hi := 0) (x := 0) rfl) (nlt c13) rfl
              refine sf_if (fun c16 => ?_) (fun c16 => ?_)
              · exact ⟨trivial, (iv_w (c := (-1)) (d := 2147483647) (iv_lit (lo := (-1)) (hi := (-1)) (x := (-1)) rfl) rfl)⟩
              · exact absurd rfl c16
          · have f17 : iv 0 2147483647 (h 33 (a1.toNatClampNeg)) := iv_ler (iv_any (h 33 (a1.toNatClampNeg))) (iv_lit (lo := 0) (hi := 0) (x := 0) rfl) (nlt c11) rfl
            unfold PX12_racing_75 FX12_racing_75
            unfold PX12_racing_80 FX12_racing_80
            refine sf_if (fun c18 => ?_) (fun c18 => ?_)
            · have f19 : iv (-2147483648) (-1) (h 32 (a0.toNatClampNeg)) := iv_ltl (iv_any (h 32 (a0.toNatClampNeg))) (iv_lit (lo := 0) (hi := 0) (x := 0) rfl) c18 rfl
              exact ⟨trivial, (iv_w (c := (-1)) (d := 2147483647) (iv_lit (lo := (-1)) (hi := (-1)) (x := (-1)) rfl) rfl)⟩
            · have f20 : iv 0 2147483647 (h 32 (a0.toNatClampNeg)) := iv_ler (iv_any (h 32 (a0.toNatClampNeg))) (iv_lit (lo := 0) (hi := 0) (x := 0) rfl) (nlt c18) rfl
              refine sf_if (fun c21 => ?_) (fun c21 => ?_)
              · have f22 : iv 1 0 1 := iv_eql (iv_lit (lo := 1) (hi := 1) (x := 1) rfl) (iv_lit (lo := 0) (hi := 0) (x := 0) rfl) c21 rfl
                exact iv_no f22 rfl
              · refine sf_n (iv_in f_a1 rfl) ?_
                refine sf_if (fun c23 => ?_) (fun c23 => ?_)
                · unfold PX12_racing_111 FX12_racing_111
                  exact ⟨trivial, (iv_w (c := (-1)) (d := 2147483647) f20 rfl)⟩
                · refine sf_n (iv_in f_a1 rfl) ?_
                  refine sf_if (fun c24 => ?_) (fun c24 => ?_)
                  · have f25 : iv 0 2147483647 (h 32 (a1.toNatClampNeg)) := iv_eql (iv_any (h 32 (a1.toNatClampNeg))) f20 c24 rfl
                    unfold PX12_racing_111 FX12_racing_111
                    exact ⟨trivial, (iv_w (c := (-1)) (d := 2147483647) f20 rfl)⟩
                  · exact ⟨trivial, (iv_w (c := (-1)) (d := 2147483647) (iv_lit (lo := (-1)) (hi := (-1)) (x := (-1)) rfl) rfl)⟩
      · have f26 : iv 0 2147483647 (h 33 (a0.toNatClampNeg)) := iv_ler (iv_any (h 33 (a0.toNatClampNeg))) (iv_lit (lo := 0) (hi := 0) (x := 0) rfl) (nlt c7) rfl
        refine sf_n (iv_in f_a0 rfl) ?_
        unfold PX12_racing_56 FX12_racing_56
        refine sf_n (iv_in f_a0 rfl) ?_
        refine sf_if (fun c27 => ?_) (fun c27 => ?_)
        · unfold PX12_racing_75 FX12_racing_75
          unfold PX12_racing_80 FX12_racing_80
          refine sf_if (fun c28 => ?_) (fun c28 => ?_)
          · have f29 : iv 0 (-1) (h 33 (a0.toNatClampNeg)) := iv_ltl f26 (iv_lit (lo := 0) (hi := 0) (x := 0) rfl) c28 rfl
            exact iv_no f29 rfl
          · refine sf_if (fun c30 => ?_) (fun c30 => ?_)
            · have f31 : iv 1 0 1 := iv_eql (iv_lit (lo := 1) (hi := 1) (x := 1) rfl) (iv_lit (lo := 0) (hi := 0) (x := 0) rfl) c30 rfl
              exact iv_no f31 rfl
            · refine sf_n (iv_in f_a1 rfl) ?_
              refine sf_if (fun c32 => ?_) (fun c32 => ?_)
              · have f33 : iv 0 2147483647 (h 33 (a1.toNatClampNeg)) := iv_eql (iv_any (h 33 (a1.toNatClampNeg))) f26 c32 rfl
                unfold PX12_racing_111 FX12_racing_111
                exact ⟨trivial, (iv_w (c := (-1)) (d := 2147483647) f26 rfl)⟩
              · refine sf_n (iv_in f_a1 rfl) ?_
                refine sf_if (fun c34 => ?_) (fun c34 => ?_)
                · have f35 : iv 0 2147483647 (h 32 (a1.toNatClampNeg)) := iv_eql (iv_any (h 32 (a1.toNatClampNeg))) f26 c34 rfl
                  unfold PX12_racing_111 FX12_racing_111
                  exact ⟨trivial, (iv_w (c := (-1)) (d := 2147483647) f26 rfl)⟩
                · exact ⟨trivial, (iv_w (c := (-1)) (d := 2147483647) (iv_lit (lo := (-1)) (hi := (-1)) (x := (-1)) rfl) rfl)⟩
        · have f36 : iv 0 (-1) (h 33 (a0.toNatClampNeg)) := iv_ltl f26 (iv_lit (lo := 0) (hi := 0) (x := 0) rfl) (nle c27) rfl
          exact iv_no f36 rfl
    · have f37 : iv 1 1 (h 39 (((301 * a0) + a1).toNatClampNeg)) := iv_nel f4 c5 rfl
      exact ⟨trivial, (iv_w (c := (-1)) (d := 2147483647) (iv_lit (lo := (-1)) (hi := (-1)) (x := (-1)) rfl) rfl)⟩

-- X12_race
set_option maxRecDepth 100000 in
set_option maxHeartbeats 4000000 in
theorem SX12_race_50 {z : zT} (L38 : Int32 → Int32 → Int32 → Int32 → ph_H → Int32 × ph_H) (LP38 : Int32 → Int32 → Int32 → Int32 → ph_H → Prop) (q38 : Nat) (hL38 : ∀ (x1 : Int32) (x2 : Int32) (x3 : Int32) (x4 : Int32) (h : ph_H), IM z h → iv 0 3 x2 → iv 2 301 x4 → 301 - (x4).toInt < ((q38 : Nat) : Int) → LP38 x1 x2 x3 x4 h ∧ Qi z (-2147483648) 2147483647 (L38 x1 x2 x3 x4 h)) : ∀ (q : Nat) (x1 : Int32) (x2 : Int32) (x3 : Int32) (x4 : Int32) (x5 : Int32) (h : ph_H), IM z h → iv 0 3 x2 → iv 2 300 x4 → iv 1 300 x5 → 301 - (x4).toInt < ((q38 + 1 : Nat) : Int) → 300 - (x5).toInt < ((q : Nat) : Int) → PX12_race_50 LP38 q x1 x2 x3 x4 x5 h ∧ Qi z (-2147483648) 2147483647 (FX12_race_50 L38 q x1 x2 x3 x4 x5 h) := by
  intro q
  induction q with
  | zero =>
    intro x1 x2 x3 x4 x5 h I f_x2 f_x4 f_x5 m38 mq
    exact mu_zu f_x5 mq rfl
  | succ q ih =>
    intro x1 x2 x3 x4 x5 h I f_x2 f_x4 f_x5 m38 mq
    unfold PX12_race_50 FX12_race_50
    refine sf_if (fun c1 => ?_) (fun c1 => ?_)
    · have f2 : iv 2 300 x5 := iv_ler f_x5 f_x4 c1 rfl
      have f3 : iv 3 301 (x4 + 1) := iv_add f_x4 (iv_lit (lo := 1) (hi := 1) (x := 1) rfl) rfl
      exact hL38 x1 x2 x3 (x4 + 1) h I f_x2 (iv_w (c := 2) (d := 301) f3 rfl) (mu_up f_x4 m38 rfl)
    · have f4 : iv 1 299 x5 := iv_ltl f_x5 f_x4 (nle c1) rfl
      have s5 := SX12_racing (z := z) x5 x4 h I (iv_w (c := 1) (d := 300) f4 rfl) (iv_w (c := 1) (d := 300) f_x4 rfl)
      refine sf_n s5.1 ?_
      refine sf_if (fun c6 => ?_) (fun c6 => ?_)
      · have f7 : iv (-1) (-1) (FX12_racing x5 x4 h) := iv_ltl s5.2 (iv_lit (lo := 0) (hi := 0) (x := 0) rfl) c6 rfl
        unfold PX12_race_104 FX12_race_104
        refine sf_if (fun c8 => ?_) (fun c8 => ?_)
        · unfold PX12_race_115 FX12_race_115
          have f9 : iv 2 300 (x5 + 1) := iv_add f4 (iv_lit (lo := 1) (hi := 1) (x := 1) rfl) rfl
          exact ih x1 x2 (x3 + 0) x4 (x5 + 1) h I f_x2 f_x4 (iv_w (c := 1) (d := 300) f9 rfl) m38 (mu_up f4 mq rfl)
        · have f10 : iv 0 (-1) 0 := iv_lel (iv_lit (lo := 0) (hi := 0) (x := 0) rfl) f7 (nlt c8) rfl
          exact iv_no f10 rfl
      · have f11 : iv 0 2147483647 (FX12_racing x5 x4 h) := iv_ler s5.2 (iv_lit (lo := 0) (hi := 0) (x := 0) rfl) (nlt c6) rfl
        refine sf_if (fun c12 => ?_) (fun c12 => ?_)
        · refine sf_if (fun c13 => ?_) (fun c13 => ?_)
          · have f14 : iv 0 0 x2 := iv_lel f_x2 (iv_lit (lo := 0) (hi := 0) (x := 0) rfl) c13 rfl
            unfold PX12_race_104 FX12_race_104
            refine sf_if (fun c15 => ?_) (fun c15 => ?_)
            · have f16 : iv 0 (-1) (FX12_racing x5 x4 h) := iv_ltl f11 (iv_lit (lo := 0) (hi := 0) (x := 0) rfl) c15 rfl
              exact iv_no f16 rfl
            · unfold PX12_race_115 FX12_race_115
              have f17 : iv 2 300 (x5 + 1) := iv_add f4 (iv_lit (lo := 1) (hi := 1) (x := 1) rfl) rfl
              exact ih x1 x2 (x3 + 1) x4 (x5 + 1) h I (iv_w (c := 0) (d := 3) f14 rfl) f_x4 (iv_w (c := 1) (d := 300) f17 rfl) m38 (mu_up f4 mq rfl)
          · have f18 : iv 1 3 x2 := iv_ltr f_x2 (iv_lit (lo := 0) (hi := 0) (x := 0) rfl) (nle c13) rfl
            refine sf_if (fun c19 => ?_) (fun c19 => ?_)
            · have f20 : iv 1 1 x2 := iv_eql f18 (iv_lit (lo := 1) (hi := 1) (x := 1) rfl) c19 rfl
              exact ⟨trivial, Qi_mk (iv_any x5) I⟩
            · have f21 : iv 2 3 x2 := iv_nel f18 c19 rfl
              refine sf_if (fun c22 => ?_) (fun c22 => ?_)
              · have f23 : iv 2 2 x2 := iv_eql f21 (iv_lit (lo := 2) (hi := 2) (x := 2) rfl) c22 rfl
                exact ⟨trivial, Qi_mk (iv_any x4) I⟩
              · have f24 : iv 3 3 x2 := iv_nel f21 c22 rfl
                exact ⟨trivial, Qi_mk (iv_any (FX12_racing x5 x4 h)) I⟩
        · unfold PX12_race_104 FX12_race_104
          refine sf_if (fun c25 => ?_) (fun c25 => ?_)
          · have f26 : iv 0 (-1) (FX12_racing x5 x4 h) := iv_ltl f11 (iv_lit (lo := 0) (hi := 0) (x := 0) rfl) c25 rfl
            exact iv_no f26 rfl
          · unfold PX12_race_115 FX12_race_115
            have f27 : iv 2 300 (x5 + 1) := iv_add f4 (iv_lit (lo := 1) (hi := 1) (x := 1) rfl) rfl
            exact ih x1 x2 (x3 + 1) x4 (x5 + 1) h I f_x2 f_x4 (iv_w (c := 1) (d := 300) f27 rfl) m38 (mu_up f4 mq rfl)
set_option maxRecDepth 100000 in
set_option maxHeartbeats 4000000 in
theorem SX12_race_38 {z : zT} : ∀ (q : Nat) (x1 : Int32) (x2 : Int32) (x3 : Int32) (x4 : Int32) (h : ph_H), IM z h → iv 0 3 x2 → iv 2 301 x4 → 301 - (x4).toInt < ((q : Nat) : Int) → PX12_race_38  q x1 x2 x3 x4 h ∧ Qi z (-2147483648) 2147483647 (FX12_race_38  q x1 x2 x3 x4 h) := by
  intro q
  induction q with
  | zero =>
    intro x1 x2 x3 x4 h I f_x2 f_x4 mq
    exact mu_zu f_x4 mq rfl
  | succ q ih =>
    intro x1 x2 x3 x4 h I f_x2 f_x4 mq
    unfold PX12_race_38 FX12_race_38
    have f1 : iv 0 300 (h 0 38) := IMv I 0 _
    refine sf_if (fun c2 => ?_) (fun c2 => ?_)
    · refine sf_if (fun c3 => ?_) (fun c3 => ?_)
      · have f4 : iv 0 0 x2 := iv_eql f_x2 (iv_lit (lo := 0) (hi := 0) (x := 0) rfl) c3 rfl
        exact ⟨trivial, Qi_mk (iv_any x3) I⟩
      · have f5 : iv 1 3 x2 := iv_nel f_x2 c3 rfl
        exact ⟨trivial, Qi_mk (iv_any (-1)) I⟩
    · have f6 : iv 2 300 x4 := iv_lel f_x4 f1 (nlt c2) rfl
      have f7 : iv 2 300 (h 0 38) := iv_ler f1 f_x4 (nlt c2) rfl
      exact SX12_race_50 (FX12_race_38  q) (PX12_race_38  q) q (fun x1 x2 x3 x4 h p0 p1 p2 pm => ih x1 x2 x3 x4 h p0 p1 p2 pm) 2000 x1 x2 x3 x4 1 h I f_x2 f6 (iv_w (c := 1) (d := 300) (iv_lit (lo := 1) (hi := 1) (x := 1) rfl) rfl) mq (mu_0u (iv_lit (lo := 1) (hi := 1) (x := 1) rfl) rfl)
set_option maxRecDepth 100000 in
set_option maxHeartbeats 4000000 in
theorem SX12_race {z : zT} (a0 : Int32) (a1 : Int32) (h : ph_H) (I : IM z h) : PX12_race a0 a1 h ∧ Qi z (-2147483648) 2147483647 (FX12_race a0 a1 h) := by
  unfold PX12_race FX12_race
  have I1 : IM z (hs h 0 0 0) := IMs I (k := 0) (i := 0) (v := 0) (iv_any 0) rfl
  have f2 : iv 0 1 (h 0 36) := IMv I 0 _
  refine sf_if (fun c3 => ?_) (fun c3 => ?_)
  · have f4 : iv 0 0 (h 0 36) := iv_eql f2 (iv_lit (lo := 0) (hi := 0) (x := 0) rfl) c3 rfl
    exact ⟨trivial, Qi_mk (iv_any (-2)) I1⟩
  · have f5 : iv 1 1 (h 0 36) := iv_nel f2 c3 rfl
    refine sf_n isIn_p ?_
    refine sf_if (fun c6 => ?_) (fun c6 => ?_)
    · have f7 : iv 0 0 (FX12_isIn a1.toInt64 0 3) := iv_eql (isIn_b (x := a1.toInt64) (l := 0) (u := 3)) (iv_lit (lo := 0) (hi := 0) (x := 0) rfl) c6 rfl
      exact ⟨trivial, Qi_mk (iv_any (-1)) I1⟩
    · have f8 : iv 0 3 a1 := isIn_iv (iv_any a1) (lw_lit (lo := 0) (hi := 0) (x := 0) rfl) (lw_lit (lo := 3) (hi := 3) (x := 3) rfl) c6 rfl
      have f9 : iv 1 1 (FX12_isIn a1.toInt64 0 3) := iv_nel (isIn_b (x := a1.toInt64) (l := 0) (u := 3)) c6 rfl
      have s10 := SX12_findAhead (z := z) (hs h 0 0 0) I1
      refine sf_n s10.1 ?_
      unfold PX12_race_33 FX12_race_33
      exact SX12_race_38 2000 a0 a1 0 2 (FX12_findAhead (hs h 0 0 0)) s10.2 f8 (iv_w (c := 2) (d := 301) (iv_lit (lo := 2) (hi := 2) (x := 2) rfl) rfl) (mu_0u (iv_lit (lo := 2) (hi := 2) (x := 2) rfl) rfl)

-- X12_differ
set_option maxRecDepth 100000 in
set_option maxHeartbeats 4000000 in
theorem SX12_differ_128 {z : zT} : ∀ (q : Nat) (x1 : Int32) (x2 : Int32) (x3 : Int32) (x4 : Int32) (h : ph_H), IM z h → iv 0 300 x1 → iv 0 300 x2 → iv 0 4 x4 → 4 - (x4).toInt < ((q : Nat) : Int) → PX12_differ_128  q x1 x2 x3 x4 h ∧ Qi z (-2147483648) 2147483647 (FX12_differ_128  q x1 x2 x3 x4 h) := by
  intro q
  induction q with
  | zero =>
    intro x1 x2 x3 x4 h I f_x1 f_x2 f_x4 mq
    exact mu_zu f_x4 mq rfl
  | succ q ih =>
    intro x1 x2 x3 x4 h I f_x1 f_x2 f_x4 mq
    unfold PX12_differ_128 FX12_differ_128
    refine sf_if (fun c1 => ?_) (fun c1 => ?_)
    · have f2 : iv 4 4 x4 := iv_ler f_x4 (iv_lit (lo := 4) (hi := 4) (x := 4) rfl) c1 rfl
      exact ⟨trivial, Qi_mk (iv_any x3) I⟩
    · have f3 : iv 0 3 x4 := iv_ltl f_x4 (iv_lit (lo := 4) (hi := 4) (x := 4) rfl) (nle c1) rfl
      have f4 : iv 0 1200 (4 * x1) := iv_mul (c := 4) rfl f_x1 rfl
      have f5 : iv 0 1203 ((4 * x1) + x4) := iv_add f4 f3 rfl
      refine sf_n (iv_in f5 rfl) ?_
      have f6 : iv 0 1200 (4 * x2) := iv_mul (c := 4) rfl f_x2 rfl
      have f7 : iv 0 1203 ((4 * x2) + x4) := iv_add f6 f3 rfl
      refine sf_n (iv_in f7 rfl) ?_
      refine sf_if (fun c8 => ?_) (fun c8 => ?_)
      · unfold PX12_differ_165 FX12_differ_165
        have f9 : iv 1 4 (x4 + 1) := iv_add f3 (iv_lit (lo := 1) (hi := 1) (x := 1) rfl) rfl
        exact ih x1 x2 (x3 + 0) (x4 + 1) h I f_x1 f_x2 (iv_w (c := 0) (d := 4) f9 rfl) (mu_up f3 mq rfl)
      · unfold PX12_differ_165 FX12_differ_165
        have f10 : iv 1 4 (x4 + 1) := iv_add f3 (iv_lit (lo := 1) (hi := 1) (x := 1) rfl) rfl
        exact ih x1 x2 (x3 + 1) (x4 + 1) h I f_x1 f_x2 (iv_w (c := 0) (d := 4) f10 rfl) (mu_up f3 mq rfl)
set_option maxRecDepth 100000 in
set_option maxHeartbeats 4000000 in
theorem SX12_differ_50 {z : zT} : ∀ (q : Nat) (x1 : Int32) (x2 : Int32) (x3 : Int32) (x4 : Int32) (h : ph_H), IM z h → iv 0 300 x1 → iv 0 300 x2 → iv 0 28 x4 → 28 - (x4).toInt < ((q : Nat) : Int) → PX12_differ_50  q x1 x2 x3 x4 h ∧ Qi z (-2147483648) 2147483647 (FX12_differ_50  q x1 x2 x3 x4 h) := by
  intro q
  induction q with
  | zero =>
    intro x1 x2 x3 x4 h I f_x1 f_x2 f_x4 mq
    exact mu_zu f_x4 mq rfl
  | succ q ih =>
    intro x1 x2 x3 x4 h I f_x1 f_x2 f_x4 mq
    unfold PX12_differ_50 FX12_differ_50
    refine sf_if (fun c1 => ?_) (fun c1 => ?_)
    · have f2 : iv 28 28 x4 := iv_ler f_x4 (iv_lit (lo := 28) (hi := 28) (x := 28) rfl) c1 rfl
      exact SX12_differ_128 2000 x1 x2 x3 0 h I f_x1 f_x2 (iv_w (c := 0) (d := 4) (iv_lit (lo := 0) (hi := 0) (x := 0) rfl) rfl) (mu_0u (iv_lit (lo := 0) (hi := 0) (x := 0) rfl) rfl)
    · have f3 : iv 0 27 x4 := iv_ltl f_x4 (iv_lit (lo := 28) (hi := 28) (x := 28) rfl) (nle c1) rfl
      have f4 : iv 0 8400 (28 * x1) := iv_mul (c := 28) rfl f_x1 rfl
      have f5 : iv 0 8427 ((28 * x1) + x4) := iv_add f4 f3 rfl
      refine sf_n (iv_in f5 rfl) ?_
      have f6 : iv 0 8400 (28 * x2) := iv_mul (c := 28) rfl f_x2 rfl
      have f7 : iv 0 8427 ((28 * x2) + x4) := iv_add f6 f3 rfl
      refine sf_n (iv_in f7 rfl) ?_
      refine sf_if (fun c8 => ?_) (fun c8 => ?_)
      · refine sf_n (iv_in f5 rfl) ?_
        refine sf_n (iv_in f7 rfl) ?_
        refine sf_if (fun c9 => ?_) (fun c9 => ?_)
        · unfold PX12_differ_117 FX12_differ_117
          have f10 : iv 1 28 (x4 + 1) := iv_add f3 (iv_lit (lo := 1) (hi := 1) (x := 1) rfl) rfl
          exact ih x1 x2 (x3 + 0) (x4 + 1) h I f_x1 f_x2 (iv_w (c := 0) (d := 28) f10 rfl) (mu_up f3 mq rfl)
        · unfold PX12_differ_112 FX12_differ_112
          unfold PX12_differ_117 FX12_differ_117
          have f11 : iv 1 28 (x4 + 1) := iv_add f3 (iv_lit (lo := 1) (hi := 1) (x := 1) rfl) rfl
          exact ih x1 x2 (x3 + 1) (x4 + 1) h I f_x1 f_x2 (iv_w (c := 0) (d := 28) f11 rfl) (mu_up f3 mq rfl)
      · unfold PX12_differ_112 FX12_differ_112
        unfold PX12_differ_117 FX12_differ_117
        have f12 : iv 1 28 (x4 + 1) := iv_add f3 (iv_lit (lo := 1) (hi := 1) (x := 1) rfl) rfl
        exact ih x1 x2 (x3 + 1) (x4 + 1) h I f_x1 f_x2 (iv_w (c := 0) (d := 28) f12 rfl) (mu_up f3 mq rfl)
set_option maxRecDepth 100000 in
set_option maxHeartbeats 4000000 in
theorem SX12_differ {z : zT} (a0 : Int32) (a1 : Int32) (h : ph_H) (I : IM z h) : PX12_differ a0 a1 h ∧ Qi z (-2147483648) 2147483647 (FX12_differ a0 a1 h) := by
  unfold PX12_differ FX12_differ
  have I1 : IM z (hs h 0 0 0) := IMs I (k := 0) (i := 0) (v := 0) (iv_any 0) rfl
  have f2 : iv 0 1 (h 0 36) := IMv I 0 _
  refine sf_if (fun c3 => ?_) (fun c3 => ?_)
  · have f4 : iv 0 0 (h 0 36) := iv_eql f2 (iv_lit (lo := 0) (hi := 0) (x := 0) rfl) c3 rfl
    exact ⟨trivial, Qi_mk (iv_any (-2)) I1⟩
  · have f5 : iv 1 1 (h 0 36) := iv_nel f2 c3 rfl
    have f6 : iv 0 300 (h 0 38) := IMv I 0 _
    refine sf_n isIn_p ?_
    refine sf_if (fun c7 => ?_) (fun c7 => ?_)
    · have f8 : iv 0 0 (FX12_isIn a0.toInt64 0 ((h 0 38).toInt64)) := iv_eql (isIn_b (x := a0.toInt64) (l := 0) (u := (h 0 38).toInt64)) (iv_lit (lo := 0) (hi := 0) (x := 0) rfl) c7 rfl
      exact ⟨trivial, Qi_mk (iv_any (-1)) I1⟩
    · have f9 : iv 0 300 a0 := isIn_iv (iv_any a0) (lw_lit (lo := 0) (hi := 0) (x := 0) rfl) (lw_of f6) c7 rfl
      have f10 : iv 1 1 (FX12_isIn a0.toInt64 0 ((h 0 38).toInt64)) := iv_nel (isIn_b (x := a0.toInt64) (l := 0) (u := (h 0 38).toInt64)) c7 rfl
      refine sf_n isIn_p ?_
      refine sf_if (fun c11 => ?_) (fun c11 => ?_)
      · have f12 : iv 0 0 (FX12_isIn a1.toInt64 0 ((h 0 38).toInt64)) := iv_eql (isIn_b (x := a1.toInt64) (l := 0) (u := (h 0 38).toInt64)) (iv_lit (lo := 0) (hi := 0) (x := 0) rfl) c11 rfl
        exact ⟨trivial, Qi_mk (iv_any (-1)) I1⟩
      · have f13 : iv 0 300 a1 := isIn_iv (iv_any a1) (lw_lit (lo := 0) (hi := 0) (x := 0) rfl) (lw_of f6) c11 rfl
        have f14 : iv 1 1 (FX12_isIn a1.toInt64 0 ((h 0 38).toInt64)) := iv_nel (isIn_b (x := a1.toInt64) (l := 0) (u := (h 0 38).toInt64)) c11 rfl
        exact SX12_differ_50 2000 a0 a1 0 0 (hs h 0 0 0) I1 f9 f13 (iv_w (c := 0) (d := 28) (iv_lit (lo := 0) (hi := 0) (x := 0) rfl) rfl) (mu_0u (iv_lit (lo := 0) (hi := 0) (x := 0) rfl) rfl)

-- X12_isOver
set_option maxRecDepth 100000 in
set_option maxHeartbeats 4000000 in
theorem SX12_isOver_42 {z : zT} : ∀ (q : Nat) (x1 : Int32) (h : ph_H), IM z h → iv 0 2 x1 → 2 - (x1).toInt < ((q : Nat) : Int) → PX12_isOver_42  q x1 h ∧ Qi z 0 1 (FX12_isOver_42  q x1 h) := by
  intro q
  induction q with
  | zero =>
    intro x1 h I f_x1 mq
    exact mu_zu f_x1 mq rfl
  | succ q ih =>
    intro x1 h I f_x1 mq
    unfold PX12_isOver_42 FX12_isOver_42
    refine sf_if (fun c1 => ?_) (fun c1 => ?_)
    · have f2 : iv 2 2 x1 := iv_ler f_x1 (iv_lit (lo := 2) (hi := 2) (x := 2) rfl) c1 rfl
      have I3 : IM z (hs h 0 73 (h 0 25)) := IMs I (k := 0) (i := 73) (v := (h 0 25)) (iv_any (h 0 25)) rfl
      unfold PX12_isOver_85 FX12_isOver_85
      refine sf_if (fun c4 => ?_) (fun c4 => ?_)
      · have f5 : iv 1 2147483647 ((hs h 0 73 (h 0 25)) 0 69) := iv_ltr (iv_any ((hs h 0 73 (h 0 25)) 0 69)) (iv_lit (lo := 0) (hi := 0) (x := 0) rfl) c4 rfl
        unfold PX12_isOver_103 FX12_isOver_103
        exact ⟨trivial, Qi_mk (iv_w (c := 0) (d := 1) (iv_lit (lo := 1) (hi := 1) (x := 1) rfl) rfl) I3⟩
      · have f6 : iv (-2147483648) 0 ((hs h 0 73 (h 0 25)) 0 69) := iv_lel (iv_any ((hs h 0 73 (h 0 25)) 0 69)) (iv_lit (lo := 0) (hi := 0) (x := 0) rfl) (nlt c4) rfl
        refine sf_if (fun c7 => ?_) (fun c7 => ?_)
        · unfold PX12_isOver_103 FX12_isOver_103
          exact ⟨trivial, Qi_mk (iv_w (c := 0) (d := 1) (iv_lit (lo := 1) (hi := 1) (x := 1) rfl) rfl) I3⟩
        · exact ⟨trivial, Qi_mk (iv_w (c := 0) (d := 1) (iv_lit (lo := 0) (hi := 0) (x := 0) rfl) rfl) I3⟩
    · have f8 : iv 0 1 x1 := iv_ltl f_x1 (iv_lit (lo := 2) (hi := 2) (x := 2) rfl) (nle c1) rfl
      refine sf_n (iv_in f8 rfl) ?_
      refine sf_n (iv_in f8 rfl) ?_
      have I9 : IM z (hs h 40 x1.toNatClampNeg (h 42 (x1.toNatClampNeg))) := IMs I (k := 40) (i := x1.toNatClampNeg) (v := (h 42 (x1.toNatClampNeg))) (iv_any (h 42 (x1.toNatClampNeg))) rfl
      refine sf_n (iv_in f8 rfl) ?_
      have f10 : iv 0 3 (h 43 (x1.toNatClampNeg)) := IMv I 43 _
      refine sf_n (iv_in f8 rfl) ?_
      have I11 : IM z (hs (hs h 40 x1.toNatClampNeg (h 42 (x1.toNatClampNeg))) 41 x1.toNatClampNeg (h 43 (x1.toNatClampNeg))) := IMs I9 (k := 41) (i := x1.toNatClampNeg) (v := (h 43 (x1.toNatClampNeg))) (iv_any (h 43 (x1.toNatClampNeg))) rfl
      have f12 : iv 1 2 (x1 + 1) := iv_add f8 (iv_lit (lo := 1) (hi := 1) (x := 1) rfl) rfl
      exact ih (x1 + 1) (hs (hs h 40 x1.toNatClampNeg (h 42 (x1.toNatClampNeg))) 41 x1.toNatClampNeg (h 43 (x1.toNatClampNeg))) I11 (iv_w (c := 0) (d := 2) f12 rfl) (mu_up f8 mq rfl)
set_option maxRecDepth 100000 in
set_option maxHeartbeats 4000000 in
theorem SX12_isOver {z : zT} (h : ph_H) (I : IM z h) : PX12_isOver h ∧ Qi z 0 1 (FX12_isOver h) := by
  unfold PX12_isOver FX12_isOver
  have I1 : IM z (hs h 0 67 ((h 0 67) + 1)) := IMs I (k := 0) (i := 67) (v := ((h 0 67) + 1)) (iv_any ((h 0 67) + 1)) rfl
  refine sf_if (fun c2 => ?_) (fun c2 => ?_)
  · have f3 : iv (-2147483648) 0 (h 0 25) := iv_lel (iv_any (h 0 25)) (iv_lit (lo := 0) (hi := 0) (x := 0) rfl) c2 rfl
    unfold PX12_isOver_85 FX12_isOver_85
    refine sf_if (fun c4 => ?_) (fun c4 => ?_)
    · have f5 : iv 1 2147483647 ((hs h 0 67 ((h 0 67) + 1)) 0 69) := iv_ltr (iv_any ((hs h 0 67 ((h 0 67) + 1)) 0 69)) (iv_lit (lo := 0) (hi := 0) (x := 0) rfl) c4 rfl
      unfold PX12_isOver_103 FX12_isOver_103
      exact ⟨trivial, Qi_mk (iv_w (c := 0) (d := 1) (iv_lit (lo := 1) (hi := 1) (x := 1) rfl) rfl) I1⟩
    · have f6 : iv (-2147483648) 0 ((hs h 0 67 ((h 0 67) + 1)) 0 69) := iv_lel (iv_any ((hs h 0 67 ((h 0 67) + 1)) 0 69)) (iv_lit (lo := 0) (hi := 0) (x := 0) rfl) (nlt c4) rfl
      refine sf_if (fun c7 => ?_) (fun c7 => ?_)
      · unfold PX12_isOver_103 FX12_isOver_103
        exact ⟨trivial, Qi_mk (iv_w (c := 0) (d := 1) (iv_lit (lo := 1) (hi := 1) (x := 1) rfl) rfl) I1⟩
      · exact ⟨trivial, Qi_mk (iv_w (c := 0) (d := 1) (iv_lit (lo := 0) (hi := 0) (x := 0) rfl) rfl) I1⟩
  · have f8 : iv 1 2147483647 (h 0 25) := iv_ltr (iv_any (h 0 25)) (iv_lit (lo := 0) (hi := 0) (x := 0) rfl) (nle c2) rfl
    refine sf_if (fun c9 => ?_) (fun c9 => ?_)
    · have f10 : iv 0 0 (h 0 69) := iv_eql (iv_any (h 0 69)) (iv_lit (lo := 0) (hi := 0) (x := 0) rfl) c9 rfl
      have I11 : IM z (hs (hs h 0 67 ((h 0 67) + 1)) 0 69 ((h 0 67) + 1)) := IMs I1 (k := 0) (i := 69) (v := ((h 0 67) + 1)) (iv_any ((h 0 67) + 1)) rfl
      have f12 : iv 0 2 (h 0 74) := IMv I 0 _
      have I13 : IM z (hs (hs (hs h 0 67 ((h 0 67) + 1)) 0 69 ((h 0 67) + 1)) 0 70 (h 0 74)) := IMs I11 (k := 0) (i := 70) (v := (h 0 74)) (iv_any (h 0 74)) rfl
      exact SX12_isOver_42 2000 0 (hs (hs (hs h 0 67 ((h 0 67) + 1)) 0 69 ((h 0 67) + 1)) 0 70 (h 0 74)) I13 (iv_w (c := 0) (d := 2) (iv_lit (lo := 0) (hi := 0) (x := 0) rfl) rfl) (mu_0u (iv_lit (lo := 0) (hi := 0) (x := 0) rfl) rfl)
    · unfold PX12_isOver_85 FX12_isOver_85
      refine sf_if (fun c14 => ?_) (fun c14 => ?_)
      · have f15 : iv 1 2147483647 ((hs h 0 67 ((h 0 67) + 1)) 0 69) := iv_ltr (iv_any ((hs h 0 67 ((h 0 67) + 1)) 0 69)) (iv_lit (lo := 0) (hi := 0) (x := 0) rfl) c14 rfl
        unfold PX12_isOver_103 FX12_isOver_103
        exact ⟨trivial, Qi_mk (iv_w (c := 0) (d := 1) (iv_lit (lo := 1) (hi := 1) (x := 1) rfl) rfl) I1⟩
      · have f16 : iv (-2147483648) 0 ((hs h 0 67 ((h 0 67) + 1)) 0 69) := iv_lel (iv_any ((hs h 0 67 ((h 0 67) + 1)) 0 69)) (iv_lit (lo := 0) (hi := 0) (x := 0) rfl) (nlt c14) rfl
        refine sf_if (fun c17 => ?_) (fun c17 => ?_)
        · unfold PX12_isOver_103 FX12_isOver_103
          exact ⟨trivial, Qi_mk (iv_w (c := 0) (d := 1) (iv_lit (lo := 1) (hi := 1) (x := 1) rfl) rfl) I1⟩
        · exact ⟨trivial, Qi_mk (iv_w (c := 0) (d := 1) (iv_lit (lo := 0) (hi := 0) (x := 0) rfl) rfl) I1⟩

-- X12_found
set_option maxRecDepth 100000 in
set_option maxHeartbeats 4000000 in
theorem SX12_found {z : zT} (a0 : Int32) (h : ph_H) (I : IM z h) : PX12_found a0 h ∧ Qi z (-2147483648) 2147483647 (FX12_found a0 h) := by
  unfold PX12_found FX12_found
  have I1 : IM z (hs h 0 0 0) := IMs I (k := 0) (i := 0) (v := 0) (iv_any 0) rfl
  refine sf_n isIn_p ?_
  refine sf_if (fun c2 => ?_) (fun c2 => ?_)
  · have f3 : iv 0 0 (FX12_isIn a0.toInt64 0 6) := iv_eql (isIn_b (x := a0.toInt64) (l := 0) (u := 6)) (iv_lit (lo := 0) (hi := 0) (x := 0) rfl) c2 rfl
    exact ⟨trivial, Qi_mk (iv_any (-1)) I1⟩
  · have f4 : iv 0 6 a0 := isIn_iv (iv_any a0) (lw_lit (lo := 0) (hi := 0) (x := 0) rfl) (lw_lit (lo := 6) (hi := 6) (x := 6) rfl) c2 rfl
    have f5 : iv 1 1 (FX12_isIn a0.toInt64 0 6) := iv_nel (isIn_b (x := a0.toInt64) (l := 0) (u := 6)) c2 rfl
    refine sf_if (fun c6 => ?_) (fun c6 => ?_)
    · have f7 : iv 6 6 a0 := iv_eql f4 (iv_lit (lo := 6) (hi := 6) (x := 6) rfl) c6 rfl
      exact ⟨trivial, Qi_mk (iv_any (h 0 67)) I1⟩
    · have f8 : iv 0 5 a0 := iv_nel f4 c6 rfl
      refine sf_if (fun c9 => ?_) (fun c9 => ?_)
      · have f10 : iv 0 0 (h 0 69) := iv_eql (iv_any (h 0 69)) (iv_lit (lo := 0) (hi := 0) (x := 0) rfl) c9 rfl
        exact ⟨trivial, Qi_mk (iv_any (-2)) I1⟩
      · refine sf_if (fun c11 => ?_) (fun c11 => ?_)
        · have f12 : iv 0 0 a0 := iv_eql f8 (iv_lit (lo := 0) (hi := 0) (x := 0) rfl) c11 rfl
          unfold PX12_found_49 FX12_found_49
          refine sf_if (fun c13 => ?_) (fun c13 => ?_)
          · exact ⟨trivial, Qi_mk (iv_any ((hs h 0 0 0) 0 70)) I1⟩
          · have f14 : iv 0 (-1) a0 := iv_nel f12 c13 rfl
            exact iv_no f14 rfl
        · have f15 : iv 1 5 a0 := iv_nel f8 c11 rfl
          refine sf_if (fun c16 => ?_) (fun c16 => ?_)
          · have f17 : iv 5 5 a0 := iv_eql f15 (iv_lit (lo := 5) (hi := 5) (x := 5) rfl) c16 rfl
            unfold PX12_found_49 FX12_found_49
            refine sf_if (fun c18 => ?_) (fun c18 => ?_)
            · have f19 : iv 5 0 a0 := iv_eql f17 (iv_lit (lo := 0) (hi := 0) (x := 0) rfl) c18 rfl
              exact iv_no f19 rfl
            · exact ⟨trivial, Qi_mk (iv_any ((hs h 0 0 0) 0 73)) I1⟩
          · have f20 : iv 1 4 a0 := iv_nel f15 c16 rfl
            refine sf_if (fun c21 => ?_) (fun c21 => ?_)
            · have f22 : iv 3 4 a0 := iv_ler f20 (iv_lit (lo := 3) (hi := 3) (x := 3) rfl) c21 rfl
              unfold PX12_found_75 FX12_found_75
              refine sf_if (fun c23 => ?_) (fun c23 => ?_)
              · have f24 : iv 2 2147483647 ((hs h 0 0 0) 0 70) := iv_ltr (iv_any ((hs h 0 0 0) 0 70)) (iv_lit (lo := 1) (hi := 1) (x := 1) rfl) c23 rfl
                refine sf_if (fun c25 => ?_) (fun c25 => ?_)
                · have f26 : iv 1 1 (a0 - a0 / 2 * 2) := iv_eql (iv_any (a0 - a0 / 2 * 2)) (iv_lit (lo := 1) (hi := 1) (x := 1) rfl) c25 rfl
                  refine sf_n (iv_in (iv_lit (lo := 1) (hi := 1) (x := 1) rfl) rfl) ?_
                  exact ⟨trivial, Qi_mk (iv_any ((hs h 0 0 0) 40 ((1 : Int32).toNatClampNeg))) I1⟩
                · refine sf_n (iv_in (iv_lit (lo := 1) (hi := 1) (x := 1) rfl) rfl) ?_
                  exact ⟨trivial, Qi_mk (iv_any ((hs h 0 0 0) 41 ((1 : Int32).toNatClampNeg))) I1⟩
              · have f27 : iv (-2147483648) 1 ((hs h 0 0 0) 0 70) := iv_lel (iv_any ((hs h 0 0 0) 0 70)) (iv_lit (lo := 1) (hi := 1) (x := 1) rfl) (nlt c23) rfl
                exact ⟨trivial, Qi_mk (iv_any (-2)) I1⟩
            · have f28 : iv 1 2 a0 := iv_ltl f20 (iv_lit (lo := 3) (hi := 3) (x := 3) rfl) (nle c21) rfl
              unfold PX12_found_75 FX12_found_75
              refine sf_if (fun c29 => ?_) (fun c29 => ?_)
              · have f30 : iv 1 2147483647 ((hs h 0 0 0) 0 70) := iv_ltr (iv_any ((hs h 0 0 0) 0 70)) (iv_lit (lo := 0) (hi := 0) (x := 0) rfl) c29 rfl
                refine sf_if (fun c31 => ?_) (fun c31 => ?_)
                · have f32 : iv 1 1 (a0 - a0 / 2 * 2) := iv_eql (iv_any (a0 - a0 / 2 * 2)) (iv_lit (lo := 1) (hi := 1) (x := 1) rfl) c31 rfl
                  refine sf_n (iv_in (iv_lit (lo := 0) (hi := 0) (x := 0) rfl) rfl) ?_
                  exact ⟨trivial, Qi_mk (iv_any ((hs h 0 0 0) 40 ((0 : Int32).toNatClampNeg))) I1⟩
                · refine sf_n (iv_in (iv_lit (lo := 0) (hi := 0) (x := 0) rfl) rfl) ?_
                  exact ⟨trivial, Qi_mk (iv_any ((hs h 0 0 0) 41 ((0 : Int32).toNatClampNeg))) I1⟩
              · have f33 : iv (-2147483648) 0 ((hs h 0 0 0) 0 70) := iv_lel (iv_any ((hs h 0 0 0) 0 70)) (iv_lit (lo := 0) (hi := 0) (x := 0) rfl) (nlt c29) rfl
                exact ⟨trivial, Qi_mk (iv_any (-2)) I1⟩

-- X12_isShelf
set_option maxRecDepth 100000 in
set_option maxHeartbeats 4000000 in
theorem SX12_isShelf  (a0 : Int32) : PX12_isShelf a0 ∧ Qc 0 1 (fun r => ¬ r = 0 → iv 0 7 a0) (FX12_isShelf a0) := by
  unfold PX12_isShelf FX12_isShelf
  refine sf_if (fun c1 => ?_) (fun c1 => ?_)
  · have f2 : iv (-2147483648) (-1) a0 := iv_ltl (iv_any a0) (iv_lit (lo := 0) (hi := 0) (x := 0) rfl) c1 rfl
    exact ⟨trivial, (iv_w (c := 0) (d := 1) (iv_lit (lo := 0) (hi := 0) (x := 0) rfl) rfl), fun z => absurd rfl z⟩
  · have f3 : iv 0 2147483647 a0 := iv_ler (iv_any a0) (iv_lit (lo := 0) (hi := 0) (x := 0) rfl) (nlt c1) rfl
    refine sf_if (fun c4 => ?_) (fun c4 => ?_)
    · have f5 : iv 8 2147483647 a0 := iv_ler f3 (iv_lit (lo := 8) (hi := 8) (x := 8) rfl) c4 rfl
      exact ⟨trivial, (iv_w (c := 0) (d := 1) (iv_lit (lo := 0) (hi := 0) (x := 0) rfl) rfl), fun z => absurd rfl z⟩
    · have f6 : iv 0 7 a0 := iv_ltl f3 (iv_lit (lo := 8) (hi := 8) (x := 8) rfl) (nle c4) rfl
      exact ⟨trivial, (iv_w (c := 0) (d := 1) (iv_lit (lo := 1) (hi := 1) (x := 1) rfl) rfl), fun _ => f6⟩

-- X12_make
set_option maxRecDepth 100000 in
set_option maxHeartbeats 4000000 in
theorem SX12_make_58 {z : zT} : ∀ (q : Nat) (x1 : Int32) (x3 : Int32) (x4 : Int32) (h : ph_H), IM z h → iv 0 7 x1 → iv 0 60 x3 → iv 0 60 x4 → 60 - (x4).toInt < ((q : Nat) : Int) → PX12_make_58  q x1 x3 x4 h ∧ Qi z (-14) 0 (FX12_make_58  q x1 x3 x4 h) := by
  intro q
  induction q with
  | zero =>
    intro x1 x3 x4 h I f_x1 f_x3 f_x4 mq
    exact mu_zu f_x4 mq rfl
  | succ q ih =>
    intro x1 x3 x4 h I f_x1 f_x3 f_x4 mq
    unfold PX12_make_58 FX12_make_58
    refine sf_if (fun c1 => ?_) (fun c1 => ?_)
    · exact ⟨trivial, Qi_mk (iv_w (c := (-14)) (d := 0) (iv_lit (lo := 0) (hi := 0) (x := 0) rfl) rfl) I⟩
    · have f2 : iv 0 59 x4 := iv_ltl f_x4 f_x3 (nle c1) rfl
      have f3 : iv 1 60 x3 := iv_ltr f_x3 f_x4 (nle c1) rfl
      have f4 : iv 0 420 (60 * x1) := iv_mul (c := 60) rfl f_x1 rfl
      have f5 : iv 0 479 ((60 * x1) + x4) := iv_add f4 f2 rfl
      refine sf_n (iv_in f5 rfl) ?_
      have I6 : IM z (hs h 48 ((60 * x1) + x4).toNatClampNeg 0) := IMs I (k := 48) (i := ((60 * x1) + x4).toNatClampNeg) (v := 0) (iv_any 0) rfl
      have f7 : iv 1 60 (x4 + 1) := iv_add f2 (iv_lit (lo := 1) (hi := 1) (x := 1) rfl) rfl
      exact ih x1 x3 (x4 + 1) (hs h 48 ((60 * x1) + x4).toNatClampNeg 0) I6 f_x1 (iv_w (c := 0) (d := 60) f3 rfl) (iv_w (c := 0) (d := 60) f7 rfl) (mu_up f2 mq rfl)
set_option maxRecDepth 100000 in
set_option maxHeartbeats 4000000 in
theorem SX12_make {z : zT} (a0 : Int32) (a1 : Int32) (a2 : Int32) (h : ph_H) (I : IM z h) : PX12_make a0 a1 a2 h ∧ Qi z (-14) 0 (FX12_make a0 a1 a2 h) := by
  unfold PX12_make FX12_make
  have I1 : IM z (hs h 0 0 0) := IMs I (k := 0) (i := 0) (v := 0) (iv_any 0) rfl
  have s2 := SX12_isShelf a0 
  refine sf_n s2.1 ?_
  refine sf_if (fun c3 => ?_) (fun c3 => ?_)
  · have f4 : iv 0 0 (FX12_isShelf a0) := iv_eql s2.2.1 (iv_lit (lo := 0) (hi := 0) (x := 0) rfl) c3 rfl
    exact ⟨trivial, Qi_mk (iv_w (c := (-14)) (d := 0) (iv_lit (lo := (-1)) (hi := (-1)) (x := (-1)) rfl) rfl) I1⟩
  · have f5 : iv 0 7 a0 := iv_and (iv_any _) (s2.2.2 c3) rfl
    have f6 : iv 1 1 (FX12_isShelf a0) := iv_nel s2.2.1 c3 rfl
    refine sf_n isIn_p ?_
    refine sf_if (fun c7 => ?_) (fun c7 => ?_)
    · have f8 : iv 0 0 (FX12_isIn a1.toInt64 2 3) := iv_eql (isIn_b (x := a1.toInt64) (l := 2) (u := 3)) (iv_lit (lo := 0) (hi := 0) (x := 0) rfl) c7 rfl
      exact ⟨trivial, Qi_mk (iv_w (c := (-14)) (d := 0) (iv_lit (lo := (-1)) (hi := (-1)) (x := (-1)) rfl) rfl) I1⟩
    · have f9 : iv 2 3 a1 := isIn_iv (iv_any a1) (lw_lit (lo := 2) (hi := 2) (x := 2) rfl) (lw_lit (lo := 3) (hi := 3) (x := 3) rfl) c7 rfl
      have f10 : iv 1 1 (FX12_isIn a1.toInt64 2 3) := iv_nel (isIn_b (x := a1.toInt64) (l := 2) (u := 3)) c7 rfl
      refine sf_if (fun c11 => ?_) (fun c11 => ?_)
      · have f12 : iv (-2147483648) 60 a2 := iv_lel (iv_any a2) (iv_lit (lo := 60) (hi := 60) (x := 60) rfl) c11 rfl
        refine sf_if (fun c13 => ?_) (fun c13 => ?_)
        · have f14 : iv 0 60 a2 := iv_ler f12 (iv_lit (lo := 0) (hi := 0) (x := 0) rfl) c13 rfl
          refine sf_n (iv_in f5 rfl) ?_
          have I15 : IM z (hs (hs h 0 0 0) 44 a0.toNatClampNeg a1) := IMs I1 (k := 44) (i := a0.toNatClampNeg) (v := a1) (iv_any a1) rfl
          refine sf_n (iv_in f5 rfl) ?_
          have I16 : IM z (hs (hs (hs h 0 0 0) 44 a0.toNatClampNeg a1) 45 a0.toNatClampNeg a2) := IMs I15 (k := 45) (i := a0.toNatClampNeg) (v := a2) f14 rfl
          exact SX12_make_58 2000 a0 a2 0 (hs (hs (hs h 0 0 0) 44 a0.toNatClampNeg a1) 45 a0.toNatClampNeg a2) I16 f5 f14 (iv_w (c := 0) (d := 60) (iv_lit (lo := 0) (hi := 0) (x := 0) rfl) rfl) (mu_0u (iv_lit (lo := 0) (hi := 0) (x := 0) rfl) rfl)
        · have f17 : iv (-2147483648) (-1) a2 := iv_ltl f12 (iv_lit (lo := 0) (hi := 0) (x := 0) rfl) (nle c13) rfl
          exact ⟨trivial, Qi_mk (iv_w (c := (-14)) (d := 0) (iv_lit (lo := (-14)) (hi := (-14)) (x := (-14)) rfl) rfl) I1⟩
      · have f18 : iv 61 2147483647 a2 := iv_ltr (iv_any a2) (iv_lit (lo := 60) (hi := 60) (x := 60) rfl) (nle c11) rfl
        exact ⟨trivial, Qi_mk (iv_w (c := (-14)) (d := 0) (iv_lit (lo := (-1)) (hi := (-1)) (x := (-1)) rfl) rfl) I1⟩

-- X12_element
set_option maxRecDepth 100000 in
set_option maxHeartbeats 4000000 in
theorem SX12_element {z : zT} (a0 : Int32) (a1 : Int32) (h : ph_H) (I : IM z h) : PX12_element a0 a1 h ∧ Qi z (-2147483648) 2147483647 (FX12_element a0 a1 h) := by
  unfold PX12_element FX12_element
  have s1 := SX12_isShelf a0 
  refine sf_n s1.1 ?_
  refine sf_if (fun c2 => ?_) (fun c2 => ?_)
  · have f3 : iv 0 0 (FX12_isShelf a0) := iv_eql s1.2.1 (iv_lit (lo := 0) (hi := 0) (x := 0) rfl) c2 rfl
    unfold PX12_element_39 FX12_element_39
    unfold PX12_element_40 FX12_element_40
    have s4 := SX12_isShelf a0 
    refine sf_n s4.1 ?_
    refine sf_if (fun c5 => ?_) (fun c5 => ?_)
    · have f6 : iv 0 0 (FX12_isShelf a0) := iv_eql s4.2.1 (iv_lit (lo := 0) (hi := 0) (x := 0) rfl) c5 rfl
      unfold PX12_element_62 FX12_element_62
      have I7 : IM z (hs h 0 0 1) := IMs I (k := 0) (i := 0) (v := 1) (iv_any 1) rfl
      refine sf_if (fun c8 => ?_) (fun c8 => ?_)
      · exact ⟨trivial, Qi_mk (iv_any 0) I7⟩
      · exact absurd rfl c8
    · have f9 : iv 0 7 a0 := iv_and (iv_any _) (s4.2.2 c5) rfl
      have f10 : iv 1 1 (FX12_isShelf a0) := iv_nel s4.2.1 c5 rfl
      refine sf_if (fun c11 => ?_) (fun c11 => ?_)
      · unfold PX12_element_62 FX12_element_62
        have I12 : IM z (hs h 0 0 2) := IMs I (k := 0) (i := 0) (v := 2) (iv_any 2) rfl
        refine sf_if (fun c13 => ?_) (fun c13 => ?_)
        · exact ⟨trivial, Qi_mk (iv_any 0) I12⟩
        · exact absurd rfl c13
      · exact absurd rfl c11
  · have f14 : iv 0 7 a0 := iv_and (iv_any _) (s1.2.2 c2) rfl
    have f15 : iv 1 1 (FX12_isShelf a0) := iv_nel s1.2.1 c2 rfl
    refine sf_n (iv_in f14 rfl) ?_
    refine sf_if (fun c16 => ?_) (fun c16 => ?_)
    · have f17 : iv (-2147483648) 1 (h 44 (a0.toNatClampNeg)) := iv_lel (iv_any (h 44 (a0.toNatClampNeg))) (iv_lit (lo := 1) (hi := 1) (x := 1) rfl) c16 rfl
      unfold PX12_element_39 FX12_element_39
      unfold PX12_element_40 FX12_element_40
      have s18 := SX12_isShelf a0 
      refine sf_n s18.1 ?_
      refine sf_if (fun c19 => ?_) (fun c19 => ?_)
      · have f20 : iv 0 0 (FX12_isShelf a0) := iv_eql s18.2.1 (iv_lit (lo := 0) (hi := 0) (x := 0) rfl) c19 rfl
        unfold PX12_element_62 FX12_element_62
        have I21 : IM z (hs h 0 0 1) := IMs I (k := 0) (i := 0) (v := 1) (iv_any 1) rfl
        refine sf_if (fun c22 => ?_) (fun c22 => ?_)
        · exact ⟨trivial, Qi_mk (iv_any 0) I21⟩
        · exact absurd rfl c22
      · have f23 : iv 1 1 (FX12_isShelf a0) := iv_nel s18.2.1 c19 rfl
        refine sf_if (fun c24 => ?_) (fun c24 => ?_)
        · unfold PX12_element_62 FX12_element_62
          have I25 : IM z (hs h 0 0 2) := IMs I (k := 0) (i := 0) (v := 2) (iv_any 2) rfl
          refine sf_if (fun c26 => ?_) (fun c26 => ?_)
          · exact ⟨trivial, Qi_mk (iv_any 0) I25⟩
          · exact absurd rfl c26
        · exact absurd rfl c24
    · have f27 : iv 2 2147483647 (h 44 (a0.toNatClampNeg)) := iv_ltr (iv_any (h 44 (a0.toNatClampNeg))) (iv_lit (lo := 1) (hi := 1) (x := 1) rfl) (nle c16) rfl
      refine sf_n (iv_in f14 rfl) ?_
      have f28 : iv 0 60 (h 45 (a0.toNatClampNeg)) := IMv I 45 _
      have f29 : iv (-1) 59 ((h 45 (a0.toNatClampNeg)) - 1) := iv_sub f28 (iv_lit (lo := 1) (hi := 1) (x := 1) rfl) rfl
      refine sf_n isIn_p ?_
      refine sf_if (fun c30 => ?_) (fun c30 => ?_)
      · have f31 : iv 0 0 (FX12_isIn a1.toInt64 0 (((h 45 (a0.toNatClampNeg)) - 1).toInt64)) := iv_eql (isIn_b (x := a1.toInt64) (l := 0) (u := ((h 45 (a0.toNatClampNeg)) - 1).toInt64)) (iv_lit (lo := 0) (hi := 0) (x := 0) rfl) c30 rfl
        unfold PX12_element_39 FX12_element_39
        unfold PX12_element_40 FX12_element_40
        have s32 := SX12_isShelf a0 
        refine sf_n s32.1 ?_
        refine sf_if (fun c33 => ?_) (fun c33 => ?_)
        · have f34 : iv 0 0 (FX12_isShelf a0) := iv_eql s32.2.1 (iv_lit (lo := 0) (hi := 0) (x := 0) rfl) c33 rfl
          unfold PX12_element_62 FX12_element_62
          have I35 : IM z (hs h 0 0 1) := IMs I (k := 0) (i := 0) (v := 1) (iv_any 1) rfl
          refine sf_if (fun c36 => ?_) (fun c36 => ?_)
          · exact ⟨trivial, Qi_mk (iv_any 0) I35⟩
          · exact absurd rfl c36
        · have f37 : iv 1 1 (FX12_isShelf a0) := iv_nel s32.2.1 c33 rfl
          refine sf_if (fun c38 => ?_) (fun c38 => ?_)
          · unfold PX12_element_62 FX12_element_62
            have I39 : IM z (hs h 0 0 2) := IMs I (k := 0) (i := 0) (v := 2) (iv_any 2) rfl
            refine sf_if (fun c40 => ?_) (fun c40 => ?_)
            · exact ⟨trivial, Qi_mk (iv_any 0) I39⟩
            · exact absurd rfl c40
          · exact absurd rfl c38
      · have f41 : iv 0 59 a1 := isIn_iv (iv_any a1) (lw_lit (lo := 0) (hi := 0) (x := 0) rfl) (lw_of f29) c30 rfl
        have f42 : iv 1 1 (FX12_isIn a1.toInt64 0 (((h 45 (a0.toNatClampNeg)) - 1).toInt64)) := iv_nel (isIn_b (x := a1.toInt64) (l := 0) (u := ((h 45 (a0.toNatClampNeg)) - 1).toInt64)) c30 rfl
        unfold PX12_element_40 FX12_element_40
        have s43 := SX12_isShelf a0 
        refine sf_n s43.1 ?_
        refine sf_if (fun c44 => ?_) (fun c44 => ?_)
        · have f45 : iv 0 0 (FX12_isShelf a0) := iv_eql s43.2.1 (iv_lit (lo := 0) (hi := 0) (x := 0) rfl) c44 rfl
          unfold PX12_element_62 FX12_element_62
          have I46 : IM z (hs h 0 0 1) := IMs I (k := 0) (i := 0) (v := 1) (iv_any 1) rfl
          refine sf_if (fun c47 => ?_) (fun c47 => ?_)
          · have f48 : iv 1 0 1 := iv_eql (iv_lit (lo := 1) (hi := 1) (x := 1) rfl) (iv_lit (lo := 0) (hi := 0) (x := 0) rfl) c47 rfl
            exact iv_no f48 rfl
          · have f49 : iv 0 420 (60 * a0) := iv_mul (c := 60) rfl f14 rfl
            have f50 : iv 0 479 ((60 * a0) + a1) := iv_add f49 f41 rfl
            refine sf_n (iv_in f50 rfl) ?_
            exact ⟨trivial, Qi_mk (iv_any (h 48 (((60 * a0) + a1).toNatClampNeg))) I46⟩
        · have f51 : iv 1 1 (FX12_isShelf a0) := iv_nel s43.2.1 c44 rfl
          refine sf_if (fun c52 => ?_) (fun c52 => ?_)
          · have f53 : iv 1 0 1 := iv_eql (iv_lit (lo := 1) (hi := 1) (x := 1) rfl) (iv_lit (lo := 0) (hi := 0) (x := 0) rfl) c52 rfl
            exact iv_no f53 rfl
          · unfold PX12_element_62 FX12_element_62
            have I54 : IM z (hs h 0 0 0) := IMs I (k := 0) (i := 0) (v := 0) (iv_any 0) rfl
            refine sf_if (fun c55 => ?_) (fun c55 => ?_)
            · have f56 : iv 1 0 1 := iv_eql (iv_lit (lo := 1) (hi := 1) (x := 1) rfl) (iv_lit (lo := 0) (hi := 0) (x := 0) rfl) c55 rfl
              exact iv_no f56 rfl
            · have f57 : iv 0 420 (60 * a0) := iv_mul (c := 60) rfl f14 rfl
              have f58 : iv 0 479 ((60 * a0) + a1) := iv_add f57 f41 rfl
              refine sf_n (iv_in f58 rfl) ?_
              exact ⟨trivial, Qi_mk (iv_any (h 48 (((60 * a0) + a1).toNatClampNeg))) I54⟩

-- X12_hasPlaces
set_option maxRecDepth 100000 in
set_option maxHeartbeats 4000000 in
theorem SX12_hasPlaces {z : zT} (a0 : Int32) (a1 : Int32) (a2 : Int32) (h : ph_H) (I : IM z h) (f_a0 : iv 0 7 a0) : PX12_hasPlaces a0 a1 a2 h ∧ iv 0 1 (FX12_hasPlaces a0 a1 a2 h) := by
  unfold PX12_hasPlaces FX12_hasPlaces
  refine sf_if (fun c1 => ?_) (fun c1 => ?_)
  · have f2 : iv (-2147483648) (-1) a2 := iv_ltl (iv_any a2) (iv_lit (lo := 0) (hi := 0) (x := 0) rfl) c1 rfl
    exact ⟨trivial, (iv_w (c := 0) (d := 1) (iv_lit (lo := 0) (hi := 0) (x := 0) rfl) rfl)⟩
  · have f3 : iv 0 2147483647 a2 := iv_ler (iv_any a2) (iv_lit (lo := 0) (hi := 0) (x := 0) rfl) (nlt c1) rfl
    refine sf_if (fun c4 => ?_) (fun c4 => ?_)
    · have f5 : iv (-2147483648) (-1) a1 := iv_ltl (iv_any a1) (iv_lit (lo := 0) (hi := 0) (x := 0) rfl) c4 rfl
      exact ⟨trivial, (iv_w (c := 0) (d := 1) (iv_lit (lo := 0) (hi := 0) (x := 0) rfl) rfl)⟩
    · have f6 : iv 0 2147483647 a1 := iv_ler (iv_any a1) (iv_lit (lo := 0) (hi := 0) (x := 0) rfl) (nlt c4) rfl
      refine sf_n (iv_in f_a0 rfl) ?_
      have f7 : iv 0 60 (h 45 (a0.toNatClampNeg)) := IMv I 45 _
      refine sf_if (fun c8 => ?_) (fun c8 => ?_)
      · have f9 : iv 1 2147483647 a1 := iv_ltr f6 f7 c8 rfl
        exact ⟨trivial, (iv_w (c := 0) (d := 1) (iv_lit (lo := 0) (hi := 0) (x := 0) rfl) rfl)⟩
      · have f10 : iv 0 60 a1 := iv_lel f6 f7 (nlt c8) rfl
        refine sf_n (iv_in f_a0 rfl) ?_
        have f11 : iv 0 60 ((h 45 (a0.toNatClampNeg)) - a1) := iv_subo f7 f10 (nlt c8) rfl
        refine sf_if (fun c12 => ?_) (fun c12 => ?_)
        · have f13 : iv 1 2147483647 a2 := iv_ltr f3 f11 c12 rfl
          exact ⟨trivial, (iv_w (c := 0) (d := 1) (iv_lit (lo := 0) (hi := 0) (x := 0) rfl) rfl)⟩
        · have f14 : iv 0 60 a2 := iv_lel f3 f11 (nlt c12) rfl
          exact ⟨trivial, (iv_w (c := 0) (d := 1) (iv_lit (lo := 1) (hi := 1) (x := 1) rfl) rfl)⟩

-- X12_denied
set_option maxRecDepth 100000 in
set_option maxHeartbeats 4000000 in
theorem SX12_denied {z : zT} (a0 : Int32) (h : ph_H) (I : IM z h) : PX12_denied a0 h ∧ Qc (-12) 0 (fun r => ¬ r < 0 → iv 0 7 a0) (FX12_denied a0 h) := by
  unfold PX12_denied FX12_denied
  have s1 := SX12_isShelf a0 
  refine sf_n s1.1 ?_
  refine sf_if (fun c2 => ?_) (fun c2 => ?_)
  · have f3 : iv 0 0 (FX12_isShelf a0) := iv_eql s1.2.1 (iv_lit (lo := 0) (hi := 0) (x := 0) rfl) c2 rfl
    exact ⟨trivial, (iv_w (c := (-12)) (d := 0) (iv_lit (lo := (-1)) (hi := (-1)) (x := (-1)) rfl) rfl), fun z => absurd (by decide) z⟩
  · have f4 : iv 0 7 a0 := iv_and (iv_any _) (s1.2.2 c2) rfl
    have f5 : iv 1 1 (FX12_isShelf a0) := iv_nel s1.2.1 c2 rfl
    refine sf_n (iv_in f4 rfl) ?_
    refine sf_if (fun c6 => ?_) (fun c6 => ?_)
    · have f7 : iv 0 0 (h 44 (a0.toNatClampNeg)) := iv_eql (iv_any (h 44 (a0.toNatClampNeg))) (iv_lit (lo := 0) (hi := 0) (x := 0) rfl) c6 rfl
      exact ⟨trivial, (iv_w (c := (-12)) (d := 0) (iv_lit (lo := (-11)) (hi := (-11)) (x := (-11)) rfl) rfl), fun z => absurd (by decide) z⟩
    · refine sf_n (iv_in f4 rfl) ?_
      refine sf_if (fun c8 => ?_) (fun c8 => ?_)
      · have f9 : iv (-2147483648) 1 (h 44 (a0.toNatClampNeg)) := iv_lel (iv_any (h 44 (a0.toNatClampNeg))) (iv_lit (lo := 1) (hi := 1) (x := 1) rfl) c8 rfl
        exact ⟨trivial, (iv_w (c := (-12)) (d := 0) (iv_lit (lo := 0) (hi := 0) (x := 0) rfl) rfl), fun _ => f4⟩
      · have f10 : iv 2 2147483647 (h 44 (a0.toNatClampNeg)) := iv_ltr (iv_any (h 44 (a0.toNatClampNeg))) (iv_lit (lo := 1) (hi := 1) (x := 1) rfl) (nle c8) rfl
        exact ⟨trivial, (iv_w (c := (-12)) (d := 0) (iv_lit (lo := (-12)) (hi := (-12)) (x := (-12)) rfl) rfl), fun z => absurd (by decide) z⟩

-- X12_weight
set_option maxRecDepth 100000 in
set_option maxHeartbeats 4000000 in
theorem SX12_weight {z : zT} (a0 : Int32) (h : ph_H) (I : IM z h) : PX12_weight a0 h ∧ Qi z (-2147483648) 2147483647 (FX12_weight a0 h) := by
  unfold PX12_weight FX12_weight
  have I1 : IM z (hs h 0 0 0) := IMs I (k := 0) (i := 0) (v := 0) (iv_any 0) rfl
  have s2 := SX12_denied (z := z) a0 (hs h 0 0 0) I1
  refine sf_n s2.1 ?_
  refine sf_if (fun c3 => ?_) (fun c3 => ?_)
  · have f4 : iv 0 7 a0 := iv_and (iv_any _) (s2.2.2 (nn_of c3)) rfl
    have f5 : iv 0 0 (FX12_denied a0 (hs h 0 0 0)) := iv_ler s2.2.1 (iv_lit (lo := 0) (hi := 0) (x := 0) rfl) c3 rfl
    refine sf_n (iv_in f4 rfl) ?_
    refine sf_n (iv_in f4 rfl) ?_
    refine sf_if (fun c6 => ?_) (fun c6 => ?_)
    · have f7 : iv 1 1 (h 47 (a0.toNatClampNeg)) := iv_eql (iv_any (h 47 (a0.toNatClampNeg))) (iv_lit (lo := 1) (hi := 1) (x := 1) rfl) c6 rfl
      refine sf_n (iv_in f4 rfl) ?_
      have f8 : iv 0 60 (h 45 (a0.toNatClampNeg)) := IMv I 45 _
      have f9 : iv 0 600 (10 * (h 45 (a0.toNatClampNeg))) := iv_mul (c := 10) rfl f8 rfl
      exact ⟨trivial, Qi_mk (iv_any (((h 46 (a0.toNatClampNeg)) + 1) + (10 * (h 45 (a0.toNatClampNeg))))) I1⟩
    · refine sf_n (iv_in f4 rfl) ?_
      refine sf_if (fun c10 => ?_) (fun c10 => ?_)
      · have f11 : iv 2 2 (h 47 (a0.toNatClampNeg)) := iv_eql (iv_any (h 47 (a0.toNatClampNeg))) (iv_lit (lo := 2) (hi := 2) (x := 2) rfl) c10 rfl
        exact ⟨trivial, Qi_mk (iv_any (((h 46 (a0.toNatClampNeg)) + 1) + 100)) I1⟩
      · exact ⟨trivial, Qi_mk (iv_any (2 * (((h 46 (a0.toNatClampNeg)) + 1) + 100))) I1⟩
  · have f12 : iv (-12) (-1) (FX12_denied a0 (hs h 0 0 0)) := iv_ltl s2.2.1 (iv_lit (lo := 0) (hi := 0) (x := 0) rfl) (nle c3) rfl
    exact ⟨trivial, Qi_mk (iv_any (FX12_denied a0 (hs h 0 0 0))) I1⟩

-- X12_toss
set_option maxRecDepth 100000 in
set_option maxHeartbeats 4000000 in
theorem SX12_toss {z : zT} (a0 : Int32) (h : ph_H) (I : IM z h) : PX12_toss a0 h ∧ Qi z (-2147483648) 2147483647 (FX12_toss a0 h) := by
  unfold PX12_toss FX12_toss
  have I1 : IM z (hs h 0 0 0) := IMs I (k := 0) (i := 0) (v := 0) (iv_any 0) rfl
  have s2 := SX12_denied (z := z) a0 (hs h 0 0 0) I1
  refine sf_n s2.1 ?_
  refine sf_if (fun c3 => ?_) (fun c3 => ?_)
  · have f4 : iv 0 7 a0 := iv_and (iv_any _) (s2.2.2 (nn_of c3)) rfl
    have f5 : iv 0 0 (FX12_denied a0 (hs h 0 0 0)) := iv_ler s2.2.1 (iv_lit (lo := 0) (hi := 0) (x := 0) rfl) c3 rfl
    refine sf_n (iv_in f4 rfl) ?_
    refine sf_if (fun c6 => ?_) (fun c6 => ?_)
    · have f7 : iv 1 1 (h 47 (a0.toNatClampNeg)) := iv_eql (iv_any (h 47 (a0.toNatClampNeg))) (iv_lit (lo := 1) (hi := 1) (x := 1) rfl) c6 rfl
      exact ⟨trivial, Qi_mk (iv_any (-15)) I1⟩
    · refine sf_n (iv_in f4 rfl) ?_
      exact ⟨trivial, Qi_mk (iv_any (h 46 (a0.toNatClampNeg))) I1⟩
  · have f8 : iv (-12) (-1) (FX12_denied a0 (hs h 0 0 0)) := iv_ltl s2.2.1 (iv_lit (lo := 0) (hi := 0) (x := 0) rfl) (nle c3) rfl
    exact ⟨trivial, Qi_mk (iv_any (FX12_denied a0 (hs h 0 0 0))) I1⟩
end MG_10_s0
section MG_11_a
/-! THE REFERENCE'S STEP: what is taken stays within what is known; steps are counted. -/
theorem IMa {z : zT} {h : ph_H} (k i : Nat) {v : Int32} (I : IM z h) (t : (decide ((tM k i).1 = -2147483648) && decide ((tM k i).2 = 2147483647)) = true) (q : okM k i = true) : IM z (hs h k i v) := by
  simp only [Bool.and_eq_true, decide_eq_true_eq] at t
  refine IMs I ?_ q
  rw [t.1, t.2]
  exact iv_any v
def RMz (z : zT) : Prop := (z 0 33 = 0 → (z 0 23).toInt ≤ (z 0 7).toInt) ∧ (¬ z 0 33 = 0 → (z 0 23).toInt ≤ (z 0 34).toInt)
def STR (z : zT) : Prop := (z 0 33 = 0 → (z 0 23).toInt < (z 0 7).toInt) ∧ (¬ z 0 33 = 0 → (z 0 23).toInt < (z 0 34).toInt)
def QI (z : zT) (o : ph_H) : Prop := ∃ z', IM z' o ∧ (z' = z ∨ z' = hs z 0 23 (z 0 23 + 1)) ∧ RMz z'
theorem zi {z : zT} {h : ph_H} (I : IM z h) (k i : Nat) (q : gz k i = true) : iv (tM k i).1 (tM k i).2 (z k i) := iv_r (IMz I k i q).symm (IMv I k i)
theorem ti_ne {x y : Int32} (h : ¬ x = y) : x.toInt ≠ y.toInt := fun e => h (Int32.toInt_inj.mp e)
theorem ti_1 : (1 : Int32).toInt = 1 := by decide
theorem ti_inc {a b : Int} {x : Int32} (f : iv a b x) (q : decide (b < 2147483647) = true) : (x + 1).toInt = x.toInt + 1 := by
  simp only [decide_eq_true_eq] at q
  unfold iv at f
  have h2 := Int32.le_toInt x
  rw [ti_add (by rw [ti_1]; omega) (by rw [ti_1]; omega), ti_1]
theorem str_of {z : zT} {H : ph_H} {o a b c : Int32} (I : IM z H) (RM : RMz z) (W : WOK o a b c H) (K : o = 16 → ¬ z 0 33 = 0 → ¬ z 0 23 = z 0 34) (e : o = 16) : STR z := by
  refine ⟨fun k => ?_, fun k => ?_⟩
  · have w := W.2.2.2.2.2.2.2.2 e ((IMz I 0 33 rfl).trans k)
    rw [IMz I 0 23 rfl, IMz I 0 7 rfl] at w
    have h1 := RM.1 k
    have h2 := ti_ne w
    omega
  · have h1 := RM.2 k
    have h2 := ti_ne (K e k)
    omega
theorem RMz_inc {z : zT} (f : iv 0 30 (z 0 23)) (S : STR z) : RMz (hs z 0 23 (z 0 23 + 1)) := by
  have e33 : hs z 0 23 (z 0 23 + 1) 0 33 = z 0 33 := hz_i rfl
  have e7 : hs z 0 23 (z 0 23 + 1) 0 7 = z 0 7 := hz_i rfl
  have e34 : hs z 0 23 (z 0 23 + 1) 0 34 = z 0 34 := hz_i rfl
  have e1 := ti_inc f rfl
  unfold RMz
  rw [e33, e7, e34, hz_e, e1]
  exact ⟨fun k => by have := S.1 k; omega, fun k => by have := S.2 k; omega⟩
theorem RMz_24 {z : zT} {v : Int32} (R : RMz z) : RMz (hs z 0 24 v) := by
  have e33 : hs z 0 24 v 0 33 = z 0 33 := hz_i rfl
  have e7 : hs z 0 24 v 0 7 = z 0 7 := hz_i rfl
  have e34 : hs z 0 24 v 0 34 = z 0 34 := hz_i rfl
  have e23 : hs z 0 24 v 0 23 = z 0 23 := hz_i rfl
  unfold RMz
  rw [e33, e7, e34, e23]
  exact R
set_option maxRecDepth 100000 in
theorem work_11 (t a b c : Int32) (H : ph_H) : FX12_work t 11 a b c H = H := by
  unfold FX12_work
  rfl
theorem W2_of {z : zT} {H : ph_H} {t o a b c : Int32} {i : Nat} (I : IM z H) (eo : H 2 i = o) (W : WOK o a b c H) (S : o = 16 → STR z) (Iw : IM z (FX12_work t o a b c H)) : (FX12_work t o a b c H 2 i = 11 → iv 0 11 (FX12_work t o a b c H 0 18)) ∧ (FX12_work t o a b c H 2 i = 16 → iv 0 29 (FX12_work t o a b c H 0 23)) := by
  have e1 : FX12_work t o a b c H 2 i = o := (IMz Iw 2 i rfl).trans ((IMz I 2 i rfl).symm.trans eo)
  rw [e1]
  refine ⟨fun e => ?_, fun e => ?_⟩
  · have w := W.2.2.2.1 e
    have e2 : FX12_work t o a b c H = H := by rw [e]; exact work_11 t a b c H
    rw [e2]
    exact w
  · have s := S e
    rw [IMz Iw 0 23 rfl]
    have f := zi I 0 23 rfl
    have f7 := zi I 0 7 rfl
    have f34 := zi I 0 34 rfl
    have g : iv 0 30 (z 0 23) := f
    have g7 : iv 0 30 (z 0 7) := f7
    have g34 : iv 0 30 (z 0 34) := f34
    unfold iv at *
    by_cases k : z 0 33 = 0
    · have := s.1 k
      omega
    · have := s.2 k
      omega
theorem QI_of {z : zT} {hw o : ph_H} {i : Nat} (Iw : IM z hw) (RM : RMz z) (S : hw 2 i = 16 → STR z) (I : IM (wz (hw 2 i) z (hw 0 23)) o) : QI z o := by
  by_cases e : hw 2 i = 16
  · unfold wz at I
    rw [if_pos e, IMz Iw 0 23 rfl] at I
    exact ⟨_, I, Or.inr rfl, RMz_inc (zi Iw 0 23 rfl) (S e)⟩
  · unfold wz at I
    rw [if_neg e] at I
    exact ⟨z, I, Or.inl rfl, RM⟩
theorem WOK_f {o a b c v : Int32} {h : ph_H} (W : WOK o a b c h) : WOK o a b c (hs h 0 25 v) := by
  have e : ∀ i, hs h 0 25 v 11 i = h 11 i := fun i => hz_k rfl
  have e18 : hs h 0 25 v 0 18 = h 0 18 := hz_i rfl
  have e33 : hs h 0 25 v 0 33 = h 0 33 := hz_i rfl
  have e23 : hs h 0 25 v 0 23 = h 0 23 := hz_i rfl
  have e7 : hs h 0 25 v 0 7 = h 0 7 := hz_i rfl
  unfold WOK at *
  simp only [e, e18, e33, e23, e7]
  exact W
theorem S_251 {z : zT} {h : ph_H} (I : IM z h) {x1 v : Int32} (f1 : iv 0 3 x1) : PX12_instruct_251 v x1 h ∧ IM z (FX12_instruct_251 v x1 h) := by
  have s := SX12_goTo (z := z) x1 v h I f1
  exact ⟨⟨s.1, trivial⟩, s.2⟩
theorem S_204 {z : zT} {h : ph_H} (I : IM z h) {x1 x2 x6 x7 : Int32} (f1 : iv 0 3 x1) (f2 : iv 0 95 x2) : PX12_instruct_204 x1 x2 x6 x7 h ∧ IM z (FX12_instruct_204 x1 x2 x6 x7 h) := by
  unfold PX12_instruct_204 FX12_instruct_204
  exact sf_n (iv_in f2 rfl) (sf_if (fun _ => ⟨trivial, I⟩) (fun _ => sf_n (iv_in f2 rfl) (sf_if (fun _ => S_251 I f1) (fun _ => sf_if (fun _ => sf_n (iv_in f1 rfl) (S_251 I f1)) (fun _ => S_251 I f1)))))
theorem S_177 {z : zT} {h : ph_H} (I : IM z h) (RM : RMz z) {x1 x2 x3 x4 x5 x6 s0 : Int32} (f1 : iv 0 3 x1) (f2 : iv 0 95 x2) (f3 : iv 0 27 x3) (f4 : iv 0 27 x4) (f5 : iv 0 27 x5) (W : WOK (h 2 (x2.toNatClampNeg)) x3 x4 x5 h) (S : h 2 (x2.toNatClampNeg) = 16 → STR z) : PX12_instruct_177 x1 x2 x3 x4 x5 x6 s0 h ∧ QI z (FX12_instruct_177 x1 x2 x3 x4 x5 x6 s0 h) := by
  unfold PX12_instruct_177 FX12_instruct_177
  refine sf_n (iv_in f2 rfl) ?_
  have s := SX12_work (z := z) x1 (h 2 (x2.toNatClampNeg)) x3 x4 x5 h I f1 f3 f4 f5 W
  refine sf_n s.1 ?_
  unfold PX12_instruct_195 FX12_instruct_195
  have w2 := W2_of (i := x2.toNatClampNeg) I rfl W S s.2
  have p := SX12_workPlain (z := z) x1 x2 x3 x4 _ s.2 f1 f2 f3 f4 w2
  refine sf_n p.1 ?_
  have g := S_204 p.2 (x1 := x1) (x2 := x2) (x6 := x6) (x7 := s0) f1 f2
  exact ⟨g.1, QI_of s.2 RM (fun e => S ((IMz I 2 _ rfl).trans ((IMz s.2 2 _ rfl).symm.trans e))) g.2⟩
theorem S_149 {z : zT} {h : ph_H} (I : IM z h) (RM : RMz z) {x1 x2 x3 x4 x5 s0 : Int32} (f1 : iv 0 3 x1) (f2 : iv 0 95 x2) (f3 : iv 0 27 x3) (f4 : iv 0 27 x4) (f5 : iv 0 27 x5) (W : WOK (h 2 (x2.toNatClampNeg)) x3 x4 x5 h) (S : h 2 (x2.toNatClampNeg) = 16 → STR z) : PX12_instruct_149 x1 x2 x3 x4 x5 s0 h ∧ QI z (FX12_instruct_149 x1 x2 x3 x4 x5 s0 h) := by
  unfold PX12_instruct_149 FX12_instruct_149
  exact sf_n (iv_in f2 rfl) (sf_if (fun _ => sf_n (iv_in f2 rfl) (S_177 I RM f1 f2 f3 f4 f5 W S)) (fun _ => sf_n (iv_in f2 rfl) (S_177 I RM f1 f2 f3 f4 f5 W S)))
theorem S_102 {z : zT} {h : ph_H} (I : IM z h) (RM : RMz z) {x1 x2 x3 x4 x5 s0 : Int32} (f1 : iv 0 3 x1) (f2 : iv 0 95 x2) (f3 : iv 0 27 x3) (f4 : iv 0 27 x4) (f5 : iv 0 27 x5) (fs : iv 0 19 s0) (W : s0 = 0 → WOK (h 2 (x2.toNatClampNeg)) x3 x4 x5 h) (K : h 2 (x2.toNatClampNeg) = 16 → ¬ z 0 33 = 0 → ¬ z 0 23 = z 0 34) : PX12_instruct_102 x1 x2 x3 x4 x5 s0 h ∧ QI z (FX12_instruct_102 x1 x2 x3 x4 x5 s0 h) := by
  unfold PX12_instruct_102 FX12_instruct_102
  have I2 : IM z (hs h 0 25 s0) := IMs I (iv_any s0) rfl
  refine sf_if (fun c => ?_) (fun _ => ⟨trivial, z, I2, Or.inl rfl, RM⟩)
  have e0 : s0 = 0 := by
    have h0 : (0 : Int32).toInt = 0 := by decide
    rw [Int32.le_iff_toInt_le] at c
    unfold iv at fs
    exact Int32.toInt_inj.mp (by omega)
  have w := W e0
  have eo : hs h 0 25 s0 2 (x2.toNatClampNeg) = h 2 (x2.toNatClampNeg) := hz_k rfl
  have w2 : WOK (hs h 0 25 s0 2 (x2.toNatClampNeg)) x3 x4 x5 (hs h 0 25 s0) := by
    rw [eo]
    exact WOK_f w
  have S : hs h 0 25 s0 2 (x2.toNatClampNeg) = 16 → STR z := by
    rw [eo]
    exact str_of I RM w K
  have T : ∀ b : Int32, PX12_instruct_149 x1 x2 x3 x4 x5 b (hs h 0 25 s0) ∧ QI z (FX12_instruct_149 x1 x2 x3 x4 x5 b (hs h 0 25 s0)) := fun b => S_149 I2 RM f1 f2 f3 f4 f5 w2 S
  have T1 : PX12_instruct_144 x1 x2 x3 x4 x5 (hs h 0 25 s0) ∧ QI z (FX12_instruct_144 x1 x2 x3 x4 x5 (hs h 0 25 s0)) := T 1
  have T0 : PX12_instruct_148 x1 x2 x3 x4 x5 (hs h 0 25 s0) ∧ QI z (FX12_instruct_148 x1 x2 x3 x4 x5 (hs h 0 25 s0)) := T 0
  exact sf_n (iv_in f2 rfl) (sf_if (fun _ => T1) (fun _ => sf_n (iv_in f2 rfl) (sf_if (fun _ => sf_n (iv_in f3 rfl) (sf_if (fun _ => T1) (fun _ => T0))) (fun _ => T0))))
theorem SX12_instruct {z : zT} (a0 a1 : Int32) (h : ph_H) (I : IM z h) (RM : RMz z) (f0 : iv 0 3 a0) (f1 : iv 0 95 a1) (K : z 2 (a1.toNatClampNeg) = 16 → ¬ z 0 33 = 0 → ¬ z 0 23 = z 0 34) : PX12_instruct a0 a1 h ∧ QI z (FX12_instruct a0 a1 h) := by
  unfold PX12_instruct FX12_instruct
  have l3 := SX12_local (z := z) a0 (h 3 (a1.toNatClampNeg)) h I f0
  have l4 := SX12_local (z := z) a0 (h 4 (a1.toNatClampNeg)) h I f0
  have l5 := SX12_local (z := z) a0 (h 5 (a1.toNatClampNeg)) h I f0
  have g3 := iv_w (c := 0) (d := 27) l3.2 rfl
  have g4 := iv_w (c := 0) (d := 27) l4.2 rfl
  have g5 := iv_w (c := 0) (d := 27) l5.2 rfl
  have w := SX12_why (z := z) a0 (h 2 (a1.toNatClampNeg)) _ _ _ (h 4 (a1.toNatClampNeg)) h I f0 g3 g4 g5
  have K2 : ∀ v : Int32, hs h 0 25 v 2 (a1.toNatClampNeg) = 16 → ¬ z 0 33 = 0 → ¬ z 0 23 = z 0 34 := fun v e => K ((IMz I 2 _ rfl).symm.trans ((hz_k rfl).symm.trans e))
  refine sf_n (iv_in f1 rfl) (sf_n l3.1 (sf_n (iv_in f1 rfl) (sf_n l4.1 (sf_n (iv_in f1 rfl) (sf_n l5.1 (sf_n (iv_in f1 rfl) (sf_n (iv_in f1 rfl) (sf_n w.1 (sf_n (iv_in f1 rfl) (sf_if (fun c => ?_) (fun c => ?_)))))))))))
  · have fm : iv 0 3 (FX12_modulo (h 3 (a1.toNatClampNeg)) 4) := modulo_iv (m := 4) rfl
    refine sf_n (iv_in f1 rfl) (sf_n (modulo_p (m := 4) (by decide) (by decide)) (sf_n (iv_in fm rfl) (sf_if (fun c2 => ?_) (fun c2 => ?_))))
    · unfold PX12_instruct_98 FX12_instruct_98
      refine S_102 (IMa 0 25 I rfl rfl) RM f0 f1 g3 g4 g5 (iv_r hz_e w.2.1) (fun e => ?_) (K2 _)
      rw [hz_k (k' := 2) (k := 0) rfl]
      exact WOK_f (w.2.2 ((hz_e).symm.trans e))
    · exact S_102 (IMa 0 25 I rfl rfl) RM f0 f1 g3 g4 g5 ⟨by decide, by decide⟩ (fun e => absurd e (by decide)) (K2 _)
  · unfold PX12_instruct_98 FX12_instruct_98
    refine S_102 (IMa 0 25 I rfl rfl) RM f0 f1 g3 g4 g5 (iv_r hz_e w.2.1) (fun e => ?_) (K2 _)
    rw [hz_k (k' := 2) (k := 0) rfl]
    exact WOK_f (w.2.2 ((hz_e).symm.trans e))
def zr (z z' : zT) : Prop := ∀ k i, gz k i = true → ¬ (k = 0 ∧ (i = 23 ∨ i = 24)) → z' k i = z k i
def QS (z : zT) (o : ph_H) : Prop := ∃ z', IM z' o ∧ RMz z' ∧ zr z z' ∧ ((z' 0 24).toInt = (z 0 24).toInt + 1 ∨ (¬ z 0 33 = 0 ∧ z' 0 24 = z 0 24 ∧ o 0 35 = 1))
theorem S_154 {z z6 : zT} {h6 : ph_H} {x1 : Int32} (I6 : IM z6 h6) (RM6 : RMz z6) (r6 : z6 = z ∨ z6 = hs z 0 23 (z 0 23 + 1)) (f1 : iv 0 3 x1) (f : iv 0 299 (z 0 24)) : PX12_step_154 x1 h6 ∧ QS z (FX12_step_154 x1 h6) := by
  have e24 : z6 0 24 = z 0 24 := by
    rcases r6 with r | r
    · rw [r]
    · rw [r]
      exact hz_i rfl
  have eh : h6 0 24 = z 0 24 := (IMz I6 0 24 rfl).trans e24
  have fh : iv 0 299 (h6 0 24) := iv_r eh f
  have f9 : iv 0 300 (h6 0 24 + 1) := iv_add fh (iv_lit (lo := 1) (hi := 1) (x := 1) rfl) rfl
  have I9 : IM (hs z6 0 24 (h6 0 24 + 1)) (hs h6 0 24 (h6 0 24 + 1)) := IMg I6 f9 rfl
  have I10 : IM (hs z6 0 24 (h6 0 24 + 1)) (hs (hs h6 0 24 (h6 0 24 + 1)) 0 26 x1) := IMs I9 f1 rfl
  refine ⟨trivial, _, I10, RMz_24 RM6, fun k i q n => ?_, Or.inl ?_⟩
  · rw [hs_o (fun e => n ⟨e.1, Or.inr e.2⟩)]
    rcases r6 with r | r
    · rw [r]
    · rw [r, hs_o (fun e => n ⟨e.1, Or.inl e.2⟩)]
  · rw [hz_e, eh]
    exact ti_inc f rfl
theorem S_148 {z : zT} {h : ph_H} {x1 x2 : Int32} (I : IM z h) (RM : RMz z) (f1 : iv 0 3 x1) (f2 : iv 0 95 x2) (K : z 2 (x2.toNatClampNeg) = 16 → ¬ z 0 33 = 0 → ¬ z 0 23 = z 0 34) (f : iv 0 299 (z 0 24)) : PX12_step_148 x1 x2 h ∧ QS z (FX12_step_148 x1 x2 h) := by
  have s := SX12_instruct (z := z) x1 x2 h I RM f1 f2 K
  obtain ⟨z6, I6, r6, RM6⟩ := s.2
  exact sf_n s.1 (S_154 I6 RM6 r6 f1 f)
set_option maxRecDepth 100000 in
set_option maxHeartbeats 4000000 in
theorem SX12_step {z : zT} (a0 : Int32) (h : ph_H) (I : IM z h) (RM : RMz z) (f0 : iv 0 3 a0) (fn : iv 0 23 (h 12 (a0.toNatClampNeg))) (fs : iv 0 299 (h 0 24)) : PX12_step a0 h ∧ QS z (FX12_step a0 h) := by
  unfold PX12_step FX12_step
  have f : iv 0 299 (z 0 24) := iv_r (IMz I 0 24 rfl).symm fs
  have fm : iv 0 72 (24 * a0) := iv_mul (c := 24) rfl f0 rfl
  have fi : iv 0 95 ((24 * a0) + (h 12 (a0.toNatClampNeg))) := iv_add fm fn rfl
  refine sf_n (iv_in f0 rfl) (sf_n (iv_in f0 rfl) (sf_n (iv_in fi rfl) (sf_n (iv_in f0 rfl) (sf_if (fun c => ?_) (fun c => ?_)))))
  · refine sf_n (iv_in fi rfl) (sf_if (fun c2 => sf_if (fun c3 => ?_) (fun c3 => sf_if (fun c4 => ?_) (fun c4 => ?_))) (fun c2 => ?_))
    · exact S_148 (IMa 0 32 (IMa 0 31 (IMa 0 30 (IMa 0 29 (IMa 0 28 (IMa 0 27 I rfl rfl) rfl rfl) rfl rfl) rfl rfl) rfl rfl) rfl rfl) RM f0 fi (fun _ k => absurd ((IMz I 0 33 rfl).symm.trans c3) k) f
    · refine ⟨trivial, z, IMs (k := 0) (i := 35) (v := 1) (IMa 0 32 (IMa 0 31 (IMa 0 30 (IMa 0 29 (IMa 0 28 (IMa 0 27 I rfl rfl) rfl rfl) rfl rfl) rfl rfl) rfl rfl) rfl rfl) (show iv 0 1 1 from ⟨by decide, by decide⟩) rfl, RM, fun _ _ _ _ => rfl, Or.inr ⟨fun k => c3 ((IMz I 0 33 rfl).trans k), rfl, hz_e⟩⟩
    · exact S_148 (IMa 0 32 (IMa 0 31 (IMa 0 30 (IMa 0 29 (IMa 0 28 (IMa 0 27 I rfl rfl) rfl rfl) rfl rfl) rfl rfl) rfl rfl) rfl rfl) RM f0 fi (fun _ _ e => c4 ((IMz I 0 23 rfl).trans (e.trans (IMz I 0 34 rfl).symm))) f
    · exact S_148 (IMa 0 32 (IMa 0 31 (IMa 0 30 (IMa 0 29 (IMa 0 28 (IMa 0 27 I rfl rfl) rfl rfl) rfl rfl) rfl rfl) rfl rfl) rfl rfl) RM f0 fi (fun e _ => absurd ((IMz I 2 _ rfl).trans e) c2) f
  · have f15 : iv 0 11 (h 15 (a0.toNatClampNeg)) := iv_ler (a := -1) (b := 11) (IMv I 15 _) (iv_lit (lo := 0) (hi := 0) (x := 0) rfl) (nlt c) rfl
    have I8 : IM z (hs (hs (hs (hs (hs (hs (hs (hs (hs (hs h 0 27 (h 12 (a0.toNatClampNeg))) 0 28 (h 2 (((24 * a0) + (h 12 (a0.toNatClampNeg))).toNatClampNeg))) 0 29 (-2)) 0 30 (-2)) 0 31 0) 0 32 (-1)) 17 (h 15 (a0.toNatClampNeg)).toNatClampNeg a0) 0 31 1) 0 32 (h 15 (a0.toNatClampNeg))) 15 a0.toNatClampNeg (-1)) := IMs (k := 15) (i := a0.toNatClampNeg) (v := -1) (IMa 0 32 (IMa 0 31 (IMa 17 _ (IMa 0 32 (IMa 0 31 (IMa 0 30 (IMa 0 29 (IMa 0 28 (IMa 0 27 I rfl rfl) rfl rfl) rfl rfl) rfl rfl) rfl rfl) rfl rfl) rfl rfl) rfl rfl) rfl rfl) (show iv (-1) 11 (-1) from ⟨by decide, by decide⟩) rfl
    have g := SX12_goTo (z := z) a0 ((h 12 (a0.toNatClampNeg)) + 1) _ I8 f0
    exact sf_n (iv_in f0 rfl) (sf_n (iv_in f15 rfl) (sf_n (iv_in f0 rfl) (sf_n (iv_in f0 rfl) (sf_n (iv_in f0 rfl) (sf_n g.1 (S_154 g.2 RM (Or.inl rfl) f0 f))))))
end MG_11_a
section MG_11_b
/-! RUNS of the reference -/
def zm (z z' : zT) : Prop := (∀ i, z' 1 i = z 1 i) ∧ z' 0 7 = z 0 7 ∧ z' 0 9 = z 0 9
theorem zm_r (z : zT) : zm z z := ⟨fun _ => rfl, rfl, rfl⟩
theorem zm_t {z z' z'' : zT} (a : zm z z') (b : zm z' z'') : zm z z'' := ⟨fun i => (b.1 i).trans (a.1 i), b.2.1.trans a.2.1, b.2.2.trans a.2.2⟩
theorem zm_hs {z z' : zT} {i : Nat} {v : Int32} (a : zm z z') (n7 : Nat.beq 7 i = false) (n9 : Nat.beq 9 i = false) : zm z (hs z' 0 i v) := ⟨fun j => (hz_k rfl).trans (a.1 j), (hz_i n7).trans a.2.1, (hz_i n9).trans a.2.2⟩
theorem zm_zr {z z' z'' : zT} (a : zm z z') (r : zr z' z'') : zm z z'' := zm_t a ⟨fun i => r 1 i rfl (fun e => absurd e.1 (by decide)), r 0 7 rfl (fun e => by rcases e.2 with h | h <;> exact absurd h (by decide)), r 0 9 rfl (fun e => by rcases e.2 with h | h <;> exact absurd h (by decide))⟩
def IT (z : zT) (h : ph_H) : Prop := ∃ z', zm z z' ∧ IM z' h ∧ z' 0 33 = 0
def RT (z : zT) (h : ph_H) : Prop := ∃ z', zm z z' ∧ IM z' h ∧ z' 0 33 = 0 ∧ RMz z'
def QiT (z : zT) (a b : Int) (o : Int32 × ph_H) : Prop := iv a b o.1 ∧ IT z o.2
theorem RT.t {z : zT} {h : ph_H} (I : RT z h) : IT z h := by
  obtain ⟨z', a, b, c, _⟩ := I
  exact ⟨z', a, b, c⟩
theorem ITv {z : zT} {h : ph_H} (I : IT z h) (k i : Nat) : iv (tM k i).1 (tM k i).2 (h k i) := by
  obtain ⟨z', a, b, c⟩ := I
  exact IMv b k i
theorem ITs {z : zT} {h : ph_H} (I : IT z h) {k i : Nat} {v : Int32} (f : iv (tM k i).1 (tM k i).2 v) (q : okM k i = true) : IT z (hs h k i v) := by
  obtain ⟨z', a, b, c⟩ := I
  exact ⟨z', a, IMs b f q, c⟩
/-- a method that keeps the invariant under every ghost -/
theorem toT {z : zT} {h : ph_H} {P : Prop} {a b : Int} {o : Int32 × ph_H} (I : IT z h) (S : ∀ z', IM z' h → P ∧ Qi z' a b o) : P ∧ QiT z a b o := by
  obtain ⟨z', m, i, e⟩ := I
  have s := S z' i
  exact ⟨s.1, s.2.1, z', m, s.2.2, e⟩
theorem RMz_0 {z : zT} {h : ph_H} (I : IM z h) : RMz (hs (hs z 0 23 0) 0 24 0) := by
  refine RMz_24 ?_
  have e33 : hs z 0 23 0 0 33 = z 0 33 := hz_i rfl
  have e7 : hs z 0 23 0 0 7 = z 0 7 := hz_i rfl
  have e34 : hs z 0 23 0 0 34 = z 0 34 := hz_i rfl
  have f7 : iv 0 30 (z 0 7) := zi I 0 7 rfl
  have f34 : iv 0 30 (z 0 34) := zi I 0 34 rfl
  have h0 : (0 : Int32).toInt = 0 := by decide
  unfold iv at *
  unfold RMz
  rw [e33, e7, e34, hz_e, h0]
  exact ⟨fun _ => f7.1, fun _ => f34.1⟩
/-- a new run -/
theorem T_begin {z : zT} {h : ph_H} (I : IT z h) : PX12_begin h ∧ (RT z (FX12_begin h) ∧ FX12_begin h 0 24 = 0) := by
  obtain ⟨z', m, i, e⟩ := I
  have s := SX12_begin (z := z') h i
  refine ⟨s.1, ⟨_, zm_hs (zm_hs m rfl rfl) rfl rfl, s.2, ?_, RMz_0 i⟩, ?_⟩
  · exact (hz_i rfl).trans ((hz_i rfl).trans e)
  · exact (IMz s.2 0 24 rfl).trans hz_e
theorem T_step {z : zT} {h : ph_H} {t : Int32} (I : RT z h) (f0 : iv 0 3 t) (fn : iv 0 23 (h 12 (t.toNatClampNeg))) (fs : iv 0 299 (h 0 24)) : PX12_step t h ∧ (RT z (FX12_step t h) ∧ (FX12_step t h 0 24).toInt = (h 0 24).toInt + 1) := by
  obtain ⟨z', m, i, e, r⟩ := I
  have s := SX12_step (z := z') t h i r f0 fn fs
  obtain ⟨z2, i2, r2, q2, d⟩ := s.2
  have e2 : z2 0 33 = 0 := (q2 0 33 rfl (fun e => by rcases e.2 with h | h <;> exact absurd h (by decide))).trans e
  rcases d with d | d
  · refine ⟨s.1, ⟨z2, zm_zr m q2, i2, e2, r2⟩, ?_⟩
    rw [IMz i2 0 24 rfl, IMz i 0 24 rfl]
    exact d
  · exact absurd e d.1
theorem T_free {z : zT} {h : ph_H} {t : Int32} (I : IT z h) (f0 : iv 0 3 t) : PX12_free t h ∧ Qf h (FX12_free t h) := by
  obtain ⟨z', m, i, e⟩ := I
  exact SX12_free (z := z') t h i f0
theorem T_canGo {z : zT} {h : ph_H} {t : Int32} (I : IT z h) (f0 : iv 0 3 t) : PX12_canGo t h ∧ Qc 0 1 (fun r => ¬ r = 0 → iv 0 23 (h 12 (t.toNatClampNeg))) (FX12_canGo t h) := by
  obtain ⟨z', m, i, e⟩ := I
  exact SX12_canGo (z := z') t h i f0
theorem iv_lt {b : Int} {x y : Int32} (f : iv 0 b x) (h : ¬ y ≤ x) {m : Int} (q : decide (y.toInt = m + 1) = true) : iv 0 m x := by
  simp only [decide_eq_true_eq] at q
  have := nle h
  rw [Int32.lt_iff_toInt_lt] at this
  unfold iv at *
  omega
theorem iv_00 : iv 0 1 (0 : Int32) := ⟨by decide, by decide⟩
theorem iv_01 : iv 0 1 (1 : Int32) := ⟨by decide, by decide⟩
theorem S_127 {z : zT} {h : ph_H} {x1 : Int32} (I : IT z h) : PX12_tryRun_127 x1 h ∧ QiT z 0 1 (FX12_tryRun_127 x1 h) := by
  unfold PX12_tryRun_127 FX12_tryRun_127
  exact sf_if (fun _ => ⟨trivial, iv_01, I⟩) (fun _ => ⟨trivial, iv_00, I⟩)
theorem S_tr12 {z : zT} : ∀ (q : Nat) (x1 x2 : Int32) (h : ph_H), RT z h → iv 0 2 x1 → iv (-1) 3 x2 → (¬ x2 < 0 → iv 0 23 (h 12 (x2.toNatClampNeg))) → 300 - (h 0 24).toInt < (q : Int) → PX12_tryRun_12 q x1 x2 h ∧ QiT z 0 1 (FX12_tryRun_12 q x1 x2 h) := by
  intro q
  induction q with
  | zero =>
    intro x1 x2 h I f1 f2 fn mq
    have g : iv 0 300 (h 0 24) := ITv I.t 0 24
    unfold iv at g
    exfalso
    omega
  | succ q ih =>
    intro x1 x2 h I f1 f2 fn mq
    unfold PX12_tryRun_12 FX12_tryRun_12
    refine sf_if (fun _ => S_127 I.t) (fun c1 => sf_if (fun c2 => sf_if (fun _ => S_127 I.t) (fun c3 => ?_)) (fun _ => S_127 I.t))
    have g : iv 0 300 (h 0 24) := ITv I.t 0 24
    have f3 : iv 0 3 x2 := iv_ler f2 (iv_lit (lo := 0) (hi := 0) (x := 0) rfl) (nlt c1) rfl
    have s := T_step I f3 (fn c1) (iv_lt g c3 rfl)
    refine sf_n s.1 ?_
    obtain ⟨I2, e24⟩ := s.2
    have m2 : 300 - (FX12_step x2 h 0 24).toInt < (q : Int) := by omega
    have fr := T_free I2.t (t := FX12_step x2 h 0 26) (ITv I2.t 0 26)
    unfold PX12_tryRun_38 FX12_tryRun_38
    refine sf_n fr.1 (sf_if (fun _ => ih _ _ _ I2 f1 fr.2.1 fr.2.2 m2) (fun d1 => ?_))
    have g74 : iv 0 2 (FX12_step x2 h 0 74) := ITv I2.t 0 74
    have f4 : iv 0 1 x1 := iv_ltl f1 g74 (nle d1) rfl
    have g43 : iv 0 3 (FX12_step x2 h 43 (x1.toNatClampNeg)) := ITv I2.t 43 _
    have cg := T_canGo I2.t g43
    have Z : ∀ P : Prop, P → P ∧ QiT z 0 1 ((0 : Int32), FX12_step x2 h) := fun P p => ⟨p, iv_00, I2.t⟩
    refine sf_n (iv_in f4 rfl) (sf_if (fun _ => sf_if (fun _ => Z _ trivial) (fun _ => sf_if (fun _ => Z _ trivial) (fun _ => sf_if (fun _ => Z _ trivial) (fun _ => sf_n (iv_in f4 rfl) (sf_if (fun _ => Z _ trivial) (fun _ => sf_n (iv_in f4 rfl) (sf_n cg.1 (sf_if (fun _ => Z _ trivial) (fun cc => sf_n (iv_in f4 rfl) ?_))))))))) (fun _ => ih _ _ _ I2 f1 fr.2.1 fr.2.2 m2))
    exact ih _ _ _ I2 (iv_add f4 (iv_lit (lo := 1) (hi := 1) (x := 1) rfl) rfl) (iv_w g43 rfl) (fun _ => cg.2.2 cc) m2
theorem SX12_tryRun {z : zT} (h : ph_H) (I : IT z h) : PX12_tryRun h ∧ QiT z 0 1 (FX12_tryRun h) := by
  have b := T_begin I
  have h0 : (0 : Int32).toInt = 0 := by decide
  unfold PX12_tryRun FX12_tryRun PX12_tryRun_4 FX12_tryRun_4
  refine sf_n b.1 ?_
  obtain ⟨I2, e⟩ := b.2
  have fr := T_free I2.t (t := 0) ⟨by decide, by decide⟩
  refine sf_n fr.1 (S_tr12 2000 _ _ _ I2 ⟨by decide, by decide⟩ fr.2.1 fr.2.2 ?_)
  rw [e, h0]
  decide
/-! run: the CHANGES are no more than the steps -/
def RH (z : zT) (h : ph_H) : Prop := ∃ z', zm z z' ∧ IM z' h ∧ z' 0 33 = 0 ∧ RMz z' ∧ (z' 0 60).toInt ≤ (z' 0 24).toInt
theorem RH.t {z : zT} {h : ph_H} (I : RH z h) : IT z h := by
  obtain ⟨z', a, b, c, _⟩ := I
  exact ⟨z', a, b, c⟩
theorem RMz_60 {z : zT} {v : Int32} (R : RMz z) : RMz (hs z 0 60 v) := by
  have e33 : hs z 0 60 v 0 33 = z 0 33 := hz_i rfl
  have e7 : hs z 0 60 v 0 7 = z 0 7 := hz_i rfl
  have e34 : hs z 0 60 v 0 34 = z 0 34 := hz_i rfl
  have e23 : hs z 0 60 v 0 23 = z 0 23 := hz_i rfl
  unfold RMz
  rw [e33, e7, e34, e23]
  exact R
theorem S_k182 {z : zT} {h : ph_H} {s0 s1 : Int32} (I : IM z h) (f1 : iv 0 300 s1) : PX12_stepKept_182 s0 s1 h ∧ IM z (FX12_stepKept_182 s0 s1 h) := by
  have g : iv 0 300 (h 0 24) := IMv I 0 24
  have k := SX12_keep (z := z) (h 0 24) (hs (hs h 34 s1.toNatClampNeg s0) 35 (h 0 24).toNatClampNeg (h 0 32)) (IMa 35 _ (IMa 34 _ I rfl rfl) rfl rfl) g
  exact sf_n (iv_in f1 rfl) (sf_n (iv_in g rfl) (sf_n k.1 ⟨trivial, k.2⟩))
theorem S_k158 {z : zT} {h : ph_H} {s0 s1 : Int32} (I : IM z h) (f1 : iv 0 300 s1) : PX12_stepKept_158 s0 s1 h ∧ IM z (FX12_stepKept_158 s0 s1 h) := by
  have g : iv 0 300 (h 0 24) := IMv I 0 24
  unfold PX12_stepKept_158 FX12_stepKept_158
  exact sf_n (iv_in f1 rfl) (sf_if (fun _ => S_k182 (IMa 33 _ I rfl rfl) g) (fun _ => S_k182 (IMa 33 _ I rfl rfl) g))
theorem S_k133 {z : zT} {h : ph_H} {s0 s1 : Int32} (I : IM z h) (f1 : iv 0 300 s1) : PX12_stepKept_133 s0 s1 h ∧ IM z (FX12_stepKept_133 s0 s1 h) := by
  have g : iv 0 300 (h 0 24) := IMv I 0 24
  unfold PX12_stepKept_133 FX12_stepKept_133
  exact sf_n (iv_in f1 rfl) (sf_if (fun _ => S_k158 (IMa 32 _ I rfl rfl) g) (fun _ => S_k158 (IMa 32 _ I rfl rfl) g))
theorem S_k73 {z : zT} {h : ph_H} {x1 : Int32} (I : IM z h) : PX12_stepKept_73 x1 h ∧ IM z (FX12_stepKept_73 x1 h) := by
  have g : iv 0 300 (h 0 24) := IMv I 0 24
  unfold PX12_stepKept_73 FX12_stepKept_73
  exact sf_n (iv_in g rfl) (sf_n (iv_in g rfl) (sf_n (iv_in g rfl) (sf_if (fun _ => S_k133 (IMa 31 _ (IMa 30 _ (IMa 29 _ I rfl rfl) rfl rfl) rfl rfl) g) (fun _ => S_k133 (IMa 31 _ (IMa 30 _ (IMa 29 _ I rfl rfl) rfl rfl) rfl rfl) g))))
theorem S_k53 {z : zT} {h : ph_H} {x1 x3 : Int32} (I : IM z h) (f3 : iv 0 30 x3) : PX12_stepKept_53 x1 x3 h ∧ IM z (FX12_stepKept_53 x1 x3 h) := by
  have g : iv 0 30 (h 0 23) := IMv I 0 23
  unfold PX12_stepKept_53 FX12_stepKept_53
  refine sf_if (fun _ => S_k73 I) (fun c => ?_)
  have f4 : iv 0 29 x3 := iv_ltl f3 g (nle c) rfl
  exact sf_n (iv_in f4 rfl) (sf_n (iv_in f4 rfl) (S_k73 (IMa 36 _ I rfl rfl)))
/-- one kept step: the changes of c at most, one step more -/
theorem S_k48 {z : zT} {h : ph_H} {x1 x3 : Int32} {C : Int} (I : IM z h) (R : RMz z) (e : z 0 33 = 0) (f1 : iv 0 3 x1) (f3 : iv 0 30 x3) (fn : iv 0 23 (h 12 (x1.toNatClampNeg))) (fs : iv 0 299 (h 0 24)) (fc : (z 0 60).toInt ≤ (z 0 24).toInt + 1) : PX12_stepKept_48 x1 x3 h ∧ (RH z (FX12_stepKept_48 x1 x3 h) ∧ (FX12_stepKept_48 x1 x3 h 0 24).toInt = (h 0 24).toInt + 1) := by
  have s := SX12_step (z := z) x1 h I R f1 fn fs
  obtain ⟨z2, i2, r2, q2, d⟩ := s.2
  have n0 : ∀ i : Nat, (i = 23 ∨ i = 24) ∨ ¬ ((0 : Nat) = 0 ∧ (i = 23 ∨ i = 24)) := fun i => by
    rcases Nat.decEq i 23 with a | a
    · rcases Nat.decEq i 24 with b | b
      · exact Or.inr (fun q => by rcases q.2 with w | w <;> contradiction)
      · exact Or.inl (Or.inr b)
    · exact Or.inl (Or.inl a)
  have e2 : z2 0 33 = 0 := (q2 0 33 rfl (fun e => by rcases e.2 with h | h <;> exact absurd h (by decide))).trans e
  have e60 : z2 0 60 = z 0 60 := q2 0 60 rfl (fun e => by rcases e.2 with h | h <;> exact absurd h (by decide))
  rcases d with d | d
  · have k := S_k53 (x1 := x1) i2 f3
    unfold PX12_stepKept_48 FX12_stepKept_48
    refine sf_n s.1 ⟨k.1, ⟨z2, zm_zr (zm_r z) q2, k.2, e2, r2, ?_⟩, ?_⟩
    · rw [e60]
      omega
    · rw [IMz k.2 0 24 rfl, IMz I 0 24 rfl]
      exact d
  · exact absurd e d.1
theorem T_kept {z : zT} {h : ph_H} {t : Int32} (I : RH z h) (f0 : iv 0 3 t) (fn : iv 0 23 (h 12 (t.toNatClampNeg))) (fs : iv 0 299 (h 0 24)) : PX12_stepKept t h ∧ (RH z (FX12_stepKept t h) ∧ (FX12_stepKept t h 0 24).toInt = (h 0 24).toInt + 1) := by
  obtain ⟨z1, m, i, e, r, c⟩ := I
  have up : ∀ o : ph_H, RH z1 o → RH z o := fun o q => by
    obtain ⟨z2, m2, q2⟩ := q
    exact ⟨z2, zm_t m m2, q2⟩
  have g23 : iv 0 30 (h 0 23) := IMv i 0 23
  have e24 := IMz i 0 24 rfl
  have e60 := IMz i 0 60 rfl
  unfold PX12_stepKept FX12_stepKept
  refine sf_if (Q := fun o => RH z o ∧ (o 0 24).toInt = (h 0 24).toInt + 1) (fun _ => ?_) (fun _ => ?_)
  · have k := S_k48 (C := 0) (x3 := h 0 23) i r e f0 g23 fn fs (by omega)
    exact ⟨k.1, up _ k.2.1, k.2.2⟩
  · have g60 : iv 0 299 (h 0 60) := by
      have g : iv 0 300 (h 0 60) := IMv i 0 60
      rw [e60] at *
      rw [e24] at fs
      unfold iv at *
      omega
    have I1 : IM z1 (hs (hs h 37 (h 0 60).toNatClampNeg (h 0 24)) 38 (h 0 60).toNatClampNeg t) := IMs (k := 38) (IMa 37 _ i rfl rfl) (show iv 0 3 t from f0) rfl
    have f9 : iv 0 300 (h 0 60 + 1) := iv_add g60 (iv_lit (lo := 1) (hi := 1) (x := 1) rfl) rfl
    have I2 : IM (hs z1 0 60 (h 0 60 + 1)) (hs (hs (hs h 37 (h 0 60).toNatClampNeg (h 0 24)) 38 (h 0 60).toNatClampNeg t) 0 60 (h 0 60 + 1)) := IMg I1 f9 rfl
    have q24 : hs z1 0 60 (h 0 60 + 1) 0 24 = z1 0 24 := hz_i rfl
    have q33 : hs z1 0 60 (h 0 60 + 1) 0 33 = z1 0 33 := hz_i rfl
    have w24 : hs (hs (hs h 37 (h 0 60).toNatClampNeg (h 0 24)) 38 (h 0 60).toNatClampNeg t) 0 60 (h 0 60 + 1) 0 24 = h 0 24 := (hz_i rfl).trans ((hz_k rfl).trans (hz_k rfl))
    have w12 : hs (hs (hs h 37 (h 0 60).toNatClampNeg (h 0 24)) 38 (h 0 60).toNatClampNeg t) 0 60 (h 0 60 + 1) 12 (t.toNatClampNeg) = h 12 (t.toNatClampNeg) := (hz_k rfl).trans ((hz_k rfl).trans (hz_k rfl))
    have k := S_k48 (C := 0) (x3 := h 0 23) I2 (RMz_60 r) (q33.trans e) f0 g23 (iv_r w12 fn) (iv_r w24 fs) (by
      rw [hz_e, q24, ti_inc g60 rfl, e60]
      omega)
    refine sf_n (iv_in g60 rfl) (sf_n (iv_in g60 rfl) ⟨k.1, up _ ?_, by rw [← w24]; exact k.2.2⟩)
    obtain ⟨z2, m2, q2⟩ := k.2.1
    exact ⟨z2, zm_t (zm_hs (zm_r z1) rfl rfl) m2, q2⟩
theorem RHv {z : zT} {h : ph_H} (I : RH z h) (k i : Nat) : iv (tM k i).1 (tM k i).2 (h k i) := ITv I.t k i
theorem S_r150 {z : zT} {h : ph_H} (I : IT z h) : PX12_run_150 h ∧ QiT z (-2147483648) 2147483647 (FX12_run_150 h) := by
  obtain ⟨z1, m, i, e⟩ := I
  have i1 : IM z1 (hs h 0 36 1) := IMs i (show iv 0 1 1 from ⟨by decide, by decide⟩) rfl
  have s := SX12_ending (z := z1) _ i1
  have g24 : iv 0 300 (h 0 24) := IMv i 0 24
  have i4 : IM z1 (hs (hs (hs (hs h 0 36 1) 0 37 (FX12_ending (hs h 0 36 1))) 0 38 (h 0 24)) 0 39 (h 0 25)) := IMa 0 39 (IMs (k := 0) (i := 38) (IMa 0 37 i1 rfl rfl) (show iv 0 300 (h 0 24) from g24) rfl) rfl rfl
  have T : ∀ v : Int32, PX12_run_195 v (hs (hs (hs (hs h 0 36 1) 0 37 (FX12_ending (hs h 0 36 1))) 0 38 (h 0 24)) 0 39 (h 0 25)) ∧ QiT z (-2147483648) 2147483647 (FX12_run_195 v (hs (hs (hs (hs h 0 36 1) 0 37 (FX12_ending (hs h 0 36 1))) 0 38 (h 0 24)) 0 39 (h 0 25))) := fun v => by
    refine ⟨trivial, iv_any _, z1, m, ?_, e⟩
    exact IMs (k := 0) (i := 42) (IMs (k := 0) (i := 41) (IMa 0 40 i4 rfl rfl) (show iv 0 30 _ from IMv i4 0 23) rfl) (show iv 0 300 _ from IMv i4 0 24) rfl
  unfold PX12_run_150 FX12_run_150
  exact sf_n s.1 (sf_if (fun _ => T _) (fun _ => T _))
theorem S_r112 {z : zT} : ∀ (q : Nat) (x1 : Int32) (h : ph_H), RH z h → iv (-1) 3 x1 → (¬ x1 < 0 → iv 0 23 (h 12 (x1.toNatClampNeg))) → 300 - (h 0 24).toInt < (q : Int) → PX12_run_112 q x1 h ∧ QiT z (-2147483648) 2147483647 (FX12_run_112 q x1 h) := by
  intro q
  induction q with
  | zero =>
    intro x1 h I f1 fn mq
    have g : iv 0 300 (h 0 24) := RHv I 0 24
    unfold iv at g
    exfalso
    omega
  | succ q ih =>
    intro x1 h I f1 fn mq
    unfold PX12_run_112 FX12_run_112
    refine sf_if (fun _ => S_r150 I.t) (fun c1 => sf_if (fun c2 => sf_if (fun _ => S_r150 I.t) (fun c3 => ?_)) (fun _ => S_r150 I.t))
    have g : iv 0 300 (h 0 24) := RHv I 0 24
    have f3 : iv 0 3 x1 := iv_ler f1 (iv_lit (lo := 0) (hi := 0) (x := 0) rfl) (nlt c1) rfl
    have s := T_kept I f3 (fn c1) (iv_lt g c3 rfl)
    refine sf_n s.1 ?_
    obtain ⟨I2, e24⟩ := s.2
    have fr := T_free I2.t (t := FX12_stepKept x1 h 0 26) (RHv I2 0 26)
    unfold PX12_run_138 FX12_run_138
    exact sf_n fr.1 (ih _ _ I2 fr.2.1 fr.2.2 (by omega))
theorem S_r41 {z : zT} (L31 : Int32 → ph_H → Int32 × ph_H) (LP31 : Int32 → ph_H → Prop) (k : Int32) (hL : ∀ h, RH z h → LP31 (k + 1) h ∧ QiT z (-2147483648) 2147483647 (L31 (k + 1) h)) (fk : iv 0 39 k) : ∀ (q : Nat) (x2 : Int32) (h : ph_H), RH z h → iv 0 100 x2 → 100 - x2.toInt < (q : Int) → PX12_run_41 LP31 q k x2 h ∧ QiT z (-2147483648) 2147483647 (FX12_run_41 L31 q k x2 h) := by
  intro q
  induction q with
  | zero =>
    intro x2 h I f mq
    exact mu_zu f mq rfl
  | succ q ih =>
    intro x2 h I f mq
    unfold PX12_run_41 FX12_run_41
    have g9 : iv 0 100 (h 9 (k.toNatClampNeg)) := RHv I 9 _
    have g8 : iv 0 3 (h 8 (k.toNatClampNeg)) := RHv I 8 _
    have g : iv 0 300 (h 0 24) := RHv I 0 24
    have cg := T_canGo I.t g8
    refine sf_n (iv_in fk rfl) (sf_if (fun _ => hL h I) (fun c1 => sf_if (fun c2 => sf_if (fun _ => hL h I) (fun c3 => sf_n (iv_in fk rfl) (sf_n cg.1 (sf_if (fun _ => hL h I) (fun cc => sf_n (iv_in fk rfl) ?_))))) (fun _ => hL h I)))
    have f2 : iv 0 99 x2 := iv_ltl f g9 (nle c1) rfl
    have s := T_kept I g8 (cg.2.2 cc) (iv_lt g c3 rfl)
    refine sf_n s.1 ?_
    exact ih _ _ s.2.1 (iv_add f2 (iv_lit (lo := 1) (hi := 1) (x := 1) rfl) rfl) (mu_up f2 mq rfl)
theorem S_r31 {z : zT} : ∀ (q : Nat) (x1 : Int32) (h : ph_H), RH z h → iv 0 40 x1 → 40 - x1.toInt < (q : Int) → PX12_run_31 q x1 h ∧ QiT z (-2147483648) 2147483647 (FX12_run_31 q x1 h) := by
  intro q
  induction q with
  | zero =>
    intro x1 h I f mq
    exact mu_zu f mq rfl
  | succ q ih =>
    intro x1 h I f mq
    unfold PX12_run_31 FX12_run_31
    have g9 : iv 0 40 (h 0 9) := RHv I 0 9
    have g24 : iv 0 300 (h 0 24) := RHv I 0 24
    have fr := T_free I.t (t := h 0 26) (RHv I 0 26)
    refine sf_if (fun _ => sf_n fr.1 (S_r112 2000 _ _ I fr.2.1 fr.2.2 ?_)) (fun c => ?_)
    · unfold iv at g24
      omega
    · have f2 : iv 0 39 x1 := iv_ltl f g9 (nle c) rfl
      exact S_r41 _ _ x1 (fun h' I' => ih _ _ I' (iv_add f2 (iv_lit (lo := 1) (hi := 1) (x := 1) rfl) rfl) (mu_up f2 mq rfl)) f2 2000 0 h I ⟨by decide, by decide⟩ (by decide)
theorem SX12_run {z : zT} (h : ph_H) (I : IT z h) : PX12_run h ∧ QiT z (-2147483648) 2147483647 (FX12_run h) := by
  have I0 : IT z (hs (hs h 0 0 0) 0 33 0) := by
    obtain ⟨z1, m, i, e⟩ := I
    exact ⟨_, zm_hs m rfl rfl, IMg (k := 0) (i := 33) (IMa 0 0 i rfl rfl) (show iv 0 1 0 from ⟨by decide, by decide⟩) rfl, hz_e⟩
  have b := T_begin I0
  unfold PX12_run FX12_run
  refine sf_n b.1 ?_
  obtain ⟨⟨z1, m, i, e, r⟩, e24⟩ := b.2
  have fz : iv 0 300 (0 : Int32) := ⟨by decide, by decide⟩
  have i2 : IM (hs z1 0 60 0) (hs (hs (FX12_begin (hs (hs h 0 0 0) 0 33 0)) 0 60 0) 0 64 0) := IMs (k := 0) (i := 64) (IMg (k := 0) (i := 60) i fz rfl) (show iv 0 1 0 from ⟨by decide, by decide⟩) rfl
  have k := SX12_keep (z := hs z1 0 60 0) 0 _ i2 fz
  unfold PX12_run_14 FX12_run_14 PX12_run_29 FX12_run_29
  refine sf_n k.1 (S_r31 2000 0 _ ⟨_, zm_hs m rfl rfl, k.2, (hz_i rfl).trans e, RMz_60 r, ?_⟩ ⟨by decide, by decide⟩ (by decide))
  have q24 : hs z1 0 60 0 0 24 = z1 0 24 := hz_i rfl
  have q0 : z1 0 24 = 0 := (IMz i 0 24 rfl).symm.trans e24
  rw [hz_e, q24, q0]
  exact Int.le_refl _
end MG_11_b
section MG_11_c
/-! play -/
def RP (z : zT) (h : ph_H) : Prop := ∃ z', zm z z' ∧ IM z' h ∧ RMz z'
theorem RPv {z : zT} {h : ph_H} (I : RP z h) (k i : Nat) : iv (tM k i).1 (tM k i).2 (h k i) := by
  obtain ⟨z', a, b, c⟩ := I
  exact IMv b k i
theorem RPa {z : zT} {h : ph_H} (k i : Nat) {v : Int32} (I : RP z h) (t : (decide ((tM k i).1 = -2147483648) && decide ((tM k i).2 = 2147483647)) = true) (q : okM k i = true) : RP z (hs h k i v) := by
  obtain ⟨z', a, b, c⟩ := I
  exact ⟨z', a, IMa k i b t q, c⟩
theorem P_free {z : zT} {h : ph_H} {t : Int32} (I : RP z h) (f0 : iv 0 3 t) : PX12_free t h ∧ Qf h (FX12_free t h) := by
  obtain ⟨z', m, i, e⟩ := I
  exact SX12_free (z := z') t h i f0
theorem P_canGo {z : zT} {h : ph_H} {t : Int32} (I : RP z h) (f0 : iv 0 3 t) : PX12_canGo t h ∧ Qc 0 1 (fun r => ¬ r = 0 → iv 0 23 (h 12 (t.toNatClampNeg))) (FX12_canGo t h) := by
  obtain ⟨z', m, i, e⟩ := I
  exact SX12_canGo (z := z') t h i f0
theorem P_told {z : zT} {h : ph_H} {t s : Int32} (I : RP z h) (f0 : iv 0 300 t) : PX12_toldThread t s h ∧ iv 0 3 (FX12_toldThread t s h) := by
  obtain ⟨z', m, i, e⟩ := I
  exact SX12_toldThread (z := z') t s h i f0
theorem P_step {z : zT} {h : ph_H} {t : Int32} (I : RP z h) (f0 : iv 0 3 t) (fn : iv 0 23 (h 12 (t.toNatClampNeg))) (fs : iv 0 299 (h 0 24)) : PX12_step t h ∧ (RP z (FX12_step t h) ∧ ((FX12_step t h 0 24).toInt = (h 0 24).toInt + 1 ∨ FX12_step t h 0 35 = 1)) := by
  obtain ⟨z', m, i, r⟩ := I
  have s := SX12_step (z := z') t h i r f0 fn fs
  obtain ⟨z2, i2, r2, q2, d⟩ := s.2
  refine ⟨s.1, ⟨z2, zm_zr m q2, i2, r2⟩, ?_⟩
  rcases d with d | d
  · refine Or.inl ?_
    rw [IMz i2 0 24 rfl, IMz i 0 24 rfl]
    exact d
  · exact Or.inr d.2.2
section PLAY
variable {z : zT} {L83 : Int32 → Int32 → ph_H → Int32 × ph_H} {LP83 : Int32 → Int32 → ph_H → Prop} {h : ph_H} {x1 x3 : Int32} {D : ph_H → Prop}
/-- what the loop's next turn needs -/
theorem S_p166 (C : ∀ h', RP z h' → (0 ≤ h' 0 66 ∨ (h' 0 24).toInt = (h 0 24).toInt + 1) → LP83 x1 x3 h' ∧ QiT z (-2147483648) 2147483647 (L83 x1 x3 h')) (I : RP z h) {x5 : Int32} (f5 : iv (-1) 3 x5) (E : ¬ h 0 24 = 300 → 0 ≤ x5 → iv 0 23 (h 12 (x5.toNatClampNeg))) : PX12_play_166 LP83 x1 x3 x5 h ∧ QiT z (-2147483648) 2147483647 (FX12_play_166 L83 x1 x3 x5 h) := by
  unfold PX12_play_166 FX12_play_166
  have g24 : iv 0 300 (h 0 24) := RPv I 0 24
  refine sf_if (fun c => sf_if (fun c2 => ?_) (fun c2 => ?_)) (fun c => ?_)
  · have fr := P_free I (t := 0) ⟨by decide, by decide⟩
    refine sf_n fr.1 (sf_if (fun _ => ?_) (fun _ => ?_))
    · exact C _ (RPa 0 66 I rfl rfl) (Or.inl (by rw [hz_e]; decide))
    · exact C _ (RPa 0 66 I rfl rfl) (Or.inl (by rw [hz_e]; decide))
  · have f6 : iv 0 3 x5 := iv_ler f5 (iv_lit (lo := 0) (hi := 0) (x := 0) rfl) c rfl
    have s := P_step I f6 (E c2 c) (iv_nel (y := 300) g24 c2 rfl)
    refine sf_n s.1 ?_
    obtain ⟨I2, d⟩ := s.2
    unfold PX12_play_215 FX12_play_215
    refine sf_if (fun a => sf_if (fun _ => ?_) (fun _ => ?_)) (fun _ => ?_)
    · refine C _ (RPa 0 66 I2 rfl rfl) (Or.inr ?_)
      rcases d with d | d
      · have e : hs (FX12_step x5 h) 0 66 (-1) 0 24 = FX12_step x5 h 0 24 := hz_i rfl
        rw [e]
        exact d
      · exact absurd (a.symm.trans d) (by decide)
    · exact C _ (RPa 0 66 I2 rfl rfl) (Or.inl (by rw [hz_e]; decide))
    · exact C _ (RPa 0 66 I2 rfl rfl) (Or.inl (by rw [hz_e]; decide))
  · exact C _ (RPa 0 66 I rfl rfl) (Or.inl (by rw [hz_e]; decide))
theorem S_p103 (C : ∀ h', RP z h' → (0 ≤ h' 0 66 ∨ (h' 0 24).toInt = (h 0 24).toInt + 1) → LP83 x1 x3 h' ∧ QiT z (-2147483648) 2147483647 (L83 x1 x3 h')) (I : RP z h) (f1 : iv 0 300 x1) {s0 : Int32} : PX12_play_103 LP83 x1 x3 s0 h ∧ QiT z (-2147483648) 2147483647 (FX12_play_103 L83 x1 x3 s0 h) := by
  unfold PX12_play_103 FX12_play_103
  have g24 : iv 0 300 (h 0 24) := RPv I 0 24
  refine sf_if (fun c => ?_) (fun c => ?_)
  · have fr := P_free I (t := h 0 26) (RPv I 0 26)
    refine sf_n fr.1 ?_
    unfold PX12_play_132 FX12_play_132
    refine sf_if (fun _ => ?_) (fun n => absurd c n)
    exact S_p166 C I fr.2.1 (fun _ a => fr.2.2 (nn_of a))
  · have t := P_told I (s := h 0 24 + 1) f1
    refine sf_n t.1 ?_
    unfold PX12_play_132 FX12_play_132
    have cg := P_canGo I t.2
    refine sf_if (fun n => absurd n c) (fun _ => sf_if (fun c3 => ?_) (fun c3 => sf_n cg.1 (sf_if (fun _ => ?_) (fun cc => ?_))))
    · refine S_p166 C I (iv_w t.2 rfl) (fun n _ => absurd ?_ n)
      have h3 : (300 : Int32).toInt = 300 := by decide
      rw [Int32.le_iff_toInt_le] at c3
      unfold iv at g24
      exact Int32.toInt_inj.mp (by omega)
    · exact C _ (RPa 0 66 I rfl rfl) (Or.inl (by rw [hz_e]; decide))
    · exact S_p166 C I (iv_w t.2 rfl) (fun _ _ => cg.2.2 cc)
end PLAY
theorem S_p83 {z : zT} : ∀ (q : Nat) (x1 x3 : Int32) (h : ph_H), RP z h → iv 0 300 x1 → ((0 ≤ h 0 66 ∧ 0 < q) ∨ 301 - (h 0 24).toInt < (q : Int)) → PX12_play_83 q x1 x3 h ∧ QiT z (-2147483648) 2147483647 (FX12_play_83 q x1 x3 h) := by
  intro q
  induction q with
  | zero =>
    intro x1 x3 h I f1 mq
    have g : iv 0 300 (h 0 24) := RPv I 0 24
    unfold iv at g
    exfalso
    omega
  | succ q ih =>
    intro x1 x3 h I f1 mq
    have g : iv 0 300 (h 0 24) := RPv I 0 24
    unfold PX12_play_83 FX12_play_83
    refine sf_if (fun _ => ?_) (fun c => ?_)
    · obtain ⟨z1, m, i, r⟩ := I
      exact ⟨trivial, iv_any _, _, zm_hs m rfl rfl, IMg (k := 0) (i := 33) i (show iv 0 1 0 from iv_00) rfl, hz_e⟩
    · have m2 : 301 - (h 0 24).toInt < ((q + 1 : Nat) : Int) := by
        rcases mq with w | w
        · exact absurd w.1 c
        · exact w
      have C : ∀ h', RP z h' → (0 ≤ h' 0 66 ∨ (h' 0 24).toInt = (h 0 24).toInt + 1) → PX12_play_83 q x1 x3 h' ∧ QiT z (-2147483648) 2147483647 (FX12_play_83 q x1 x3 h') := fun h' I' w => by
        refine ih x1 x3 h' I' f1 ?_
        unfold iv at g
        rcases w with w | w
        · exact Or.inl ⟨w, by omega⟩
        · exact Or.inr (by omega)
      exact sf_if (fun _ => S_p103 C I f1) (fun _ => S_p103 C I f1)
theorem SX12_play {z : zT} (a0 a1 : Int32) (h : ph_H) (I : IT z h) : PX12_play a0 a1 h ∧ QiT z (-2147483648) 2147483647 (FX12_play a0 a1 h) := by
  have I0 : IT z (hs h 0 0 0) := by
    obtain ⟨z1, m, i, e⟩ := I
    exact ⟨z1, m, IMa 0 0 i rfl rfl, e⟩
  have N : ∀ v : Int32, True ∧ QiT z (-2147483648) 2147483647 (v, hs h 0 0 0) := fun v => ⟨trivial, iv_any _, I0⟩
  have g60 : iv 0 300 (h 0 60) := ITv I 0 60
  have g41 : iv 0 30 (h 0 41) := ITv I 0 41
  unfold PX12_play FX12_play
  refine sf_if (fun _ => N _) (fun _ => sf_n isIn_p (sf_if (fun _ => N _) (fun c1 => sf_n isIn_p (sf_if (fun _ => N _) (fun c2 => ?_)))))
  have f0 : iv 0 300 a0 := isIn_iv (iv_any a0) (lw_lit (lo := 0) (hi := 0) (x := 0) rfl) (lw_of g60) c1 rfl
  have f1 : iv 0 30 a1 := isIn_iv (iv_any a1) (lw_lit (lo := 0) (hi := 0) (x := 0) rfl) (lw_of g41) c2 rfl
  obtain ⟨z1, m, i, e⟩ := I
  have i2 : IM (hs (hs z1 0 33 1) 0 34 a1) (hs (hs (hs h 0 0 0) 0 33 1) 0 34 a1) := IMg (k := 0) (i := 34) (IMg (k := 0) (i := 33) (IMa 0 0 i rfl rfl) (show iv 0 1 1 from iv_01) rfl) (show iv 0 30 a1 from f1) rfl
  have b := SX12_begin _ i2
  refine sf_n b.1 ?_
  have I2 : RP z (FX12_begin (hs (hs (hs h 0 0 0) 0 33 1) 0 34 a1)) := ⟨_, zm_hs (zm_hs (zm_hs (zm_hs m rfl rfl) rfl rfl) rfl rfl) rfl rfl, b.2, RMz_0 i2⟩
  have e24 : FX12_begin (hs (hs (hs h 0 0 0) 0 33 1) 0 34 a1) 0 24 = 0 := (IMz b.2 0 24 rfl).trans hz_e
  have T : ∀ v : Int32, PX12_play_82 a0 v (hs (FX12_begin (hs (hs (hs h 0 0 0) 0 33 1) 0 34 a1)) 0 66 (-1)) ∧ QiT z (-2147483648) 2147483647 (FX12_play_82 a0 v (hs (FX12_begin (hs (hs (hs h 0 0 0) 0 33 1) 0 34 a1)) 0 66 (-1))) := fun v => by
    refine S_p83 2000 a0 v _ (RPa 0 66 I2 rfl rfl) f0 (Or.inr ?_)
    have w : hs (FX12_begin (hs (hs (hs h 0 0 0) 0 33 1) 0 34 a1)) 0 66 (-1) 0 24 = 0 := (hz_i rfl).trans e24
    have h0 : (0 : Int32).toInt = 0 := by decide
    rw [w, h0]
    decide
  unfold PX12_play_59 FX12_play_59
  refine sf_if (fun _ => T _) (fun c => sf_n ?_ (T _))
  have f2 : iv 1 300 a0 := iv_nel (y := 0) f0 c rfl
  have f3 : iv 0 299 (a0 - 1) := iv_sub f2 (iv_lit (lo := 1) (hi := 1) (x := 1) rfl) rfl
  exact iv_in f3 rfl
end MG_11_c
section MG_12_find
/-! find -/
theorem QiT_mk {z : zT} {a b : Int} {x : Int32} {h : ph_H} (f : iv a b x) (I : IT z h) : QiT z a b (x, h) := ⟨f, I⟩
theorem ITk {z : zT} {h : ph_H} (I : IT z h) : IT z (hs h 0 33 0) := by
  obtain ⟨z1, m, i, e⟩ := I
  exact ⟨_, zm_hs m rfl rfl, IMg (k := 0) (i := 33) i (show iv 0 1 0 from iv_00) rfl, hz_e⟩
theorem SX12_isOver_T {z : zT} (h : ph_H) (I : IT z h) : PX12_isOver h ∧ QiT z 0 1 (FX12_isOver h) := toT I (fun z1 i => SX12_isOver (z := z1) h i)
set_option maxRecDepth 100000 in
set_option maxHeartbeats 4000000 in
theorem SX12_tryLast_12 {z : zT} (L3 : Int32 → Int32 → Int32 → ph_H → Int32 × ph_H) (LP3 : Int32 → Int32 → Int32 → ph_H → Prop) (q3 : Nat) (hL3 : ∀ (x1 : Int32) (x3 : Int32) (x4 : Int32) (h : ph_H), IT z h → iv 0 1 x1 → iv 0 300 x3 → iv 0 301 x4 → 301 - (x4).toInt < ((q3 : Nat) : Int) → LP3 x1 x3 x4 h ∧ QiT z 0 1 (L3 x1 x3 x4 h)) : ∀ (q : Nat) (x1 : Int32) (x3 : Int32) (x4 : Int32) (x5 : Int32) (h : ph_H), IT z h → iv 0 1 x1 → iv 1 300 x3 → iv 0 299 x4 → iv 0 4 x5 → 301 - (x4).toInt < ((q3 + 1 : Nat) : Int) → 4 - (x5).toInt < ((q : Nat) : Int) → PX12_tryLast_12 LP3 q x1 x3 x4 x5 h ∧ QiT z 0 1 (FX12_tryLast_12 L3 q x1 x3 x4 x5 h) := by
  intro q
  induction q with
  | zero =>
    intro x1 x3 x4 x5 h I f_x1 f_x3 f_x4 f_x5 m3 mq
    exact mu_zu f_x5 mq rfl
  | succ q ih =>
    intro x1 x3 x4 x5 h I f_x1 f_x3 f_x4 f_x5 m3 mq
    unfold PX12_tryLast_12 FX12_tryLast_12
    refine sf_if (fun c1 => ?_) (fun c1 => ?_)
    · have f2 : iv 4 4 x5 := iv_ler f_x5 (iv_lit (lo := 4) (hi := 4) (x := 4) rfl) c1 rfl
      have f3 : iv 1 300 (x4 + 1) := iv_add f_x4 (iv_lit (lo := 1) (hi := 1) (x := 1) rfl) rfl
      exact hL3 x1 x3 (x4 + 1) h I f_x1 (iv_w (c := 0) (d := 300) f_x3 rfl) (iv_w (c := 0) (d := 301) f3 rfl) (mu_up f_x4 m3 rfl)
    · have f4 : iv 0 3 x5 := iv_ltl f_x5 (iv_lit (lo := 4) (hi := 4) (x := 4) rfl) (nle c1) rfl
      have f5 : iv 1 2 (x1 + 1) := iv_add f_x1 (iv_lit (lo := 1) (hi := 1) (x := 1) rfl) rfl
      have I6 : IT z (hs h 0 74 (x1 + 1)) := ITs I (k := 0) (i := 74) (v := (x1 + 1)) (iv_w (c := 0) (d := 2) f5 rfl) rfl
      refine sf_n (iv_in f_x1 rfl) ?_
      have I7 : IT z (hs (hs h 0 74 (x1 + 1)) 42 x1.toNatClampNeg x4) := ITs I6 (k := 42) (i := x1.toNatClampNeg) (v := x4) (iv_any x4) rfl
      refine sf_n (iv_in f_x1 rfl) ?_
      have I8 : IT z (hs (hs (hs h 0 74 (x1 + 1)) 42 x1.toNatClampNeg x4) 43 x1.toNatClampNeg x5) := ITs I7 (k := 43) (i := x1.toNatClampNeg) (v := x5) f4 rfl
      have s9 := SX12_tryRun (z := z) (hs (hs (hs h 0 74 (x1 + 1)) 42 x1.toNatClampNeg x4) 43 x1.toNatClampNeg x5) I8
      refine sf_n s9.1 ?_
      unfold PX12_tryLast_45 FX12_tryLast_45
      refine sf_if (fun c10 => ?_) (fun c10 => ?_)
      · have f11 : iv 0 0 ((FX12_tryRun (hs (hs (hs h 0 74 (x1 + 1)) 42 x1.toNatClampNeg x4) 43 x1.toNatClampNeg x5)).1) := iv_eql s9.2.1 (iv_lit (lo := 0) (hi := 0) (x := 0) rfl) c10 rfl
        unfold PX12_tryLast_57 FX12_tryLast_57
        have f12 : iv 1 4 (x5 + 1) := iv_add f4 (iv_lit (lo := 1) (hi := 1) (x := 1) rfl) rfl
        exact ih x1 x3 x4 (x5 + 1) ((FX12_tryRun (hs (hs (hs h 0 74 (x1 + 1)) 42 x1.toNatClampNeg x4) 43 x1.toNatClampNeg x5)).2) s9.2.2 f_x1 f_x3 f_x4 (iv_w (c := 0) (d := 4) f12 rfl) m3 (mu_up f4 mq rfl)
      · have f13 : iv 1 1 ((FX12_tryRun (hs (hs (hs h 0 74 (x1 + 1)) 42 x1.toNatClampNeg x4) 43 x1.toNatClampNeg x5)).1) := iv_nel s9.2.1 c10 rfl
        have s14 := SX12_isOver_T (z := z) ((FX12_tryRun (hs (hs (hs h 0 74 (x1 + 1)) 42 x1.toNatClampNeg x4) 43 x1.toNatClampNeg x5)).2) s9.2.2
        refine sf_n s14.1 ?_
        unfold PX12_tryLast_52 FX12_tryLast_52
        refine sf_if (fun c15 => ?_) (fun c15 => ?_)
        · have f16 : iv 0 0 ((FX12_isOver ((FX12_tryRun (hs (hs (hs h 0 74 (x1 + 1)) 42 x1.toNatClampNeg x4) 43 x1.toNatClampNeg x5)).2)).1) := iv_eql s14.2.1 (iv_lit (lo := 0) (hi := 0) (x := 0) rfl) c15 rfl
          unfold PX12_tryLast_57 FX12_tryLast_57
          have f17 : iv 1 4 (x5 + 1) := iv_add f4 (iv_lit (lo := 1) (hi := 1) (x := 1) rfl) rfl
          exact ih x1 x3 x4 (x5 + 1) ((FX12_isOver ((FX12_tryRun (hs (hs (hs h 0 74 (x1 + 1)) 42 x1.toNatClampNeg x4) 43 x1.toNatClampNeg x5)).2)).2) s14.2.2 f_x1 f_x3 f_x4 (iv_w (c := 0) (d := 4) f17 rfl) m3 (mu_up f4 mq rfl)
        · have f18 : iv 1 1 ((FX12_isOver ((FX12_tryRun (hs (hs (hs h 0 74 (x1 + 1)) 42 x1.toNatClampNeg x4) 43 x1.toNatClampNeg x5)).2)).1) := iv_nel s14.2.1 c15 rfl
          exact ⟨trivial, QiT_mk (iv_w (c := 0) (d := 1) (iv_lit (lo := 1) (hi := 1) (x := 1) rfl) rfl) s14.2.2⟩
set_option maxRecDepth 100000 in
set_option maxHeartbeats 4000000 in
theorem SX12_tryLast_3 {z : zT} : ∀ (q : Nat) (x1 : Int32) (x3 : Int32) (x4 : Int32) (h : ph_H), IT z h → iv 0 1 x1 → iv 0 300 x3 → iv 0 301 x4 → 301 - (x4).toInt < ((q : Nat) : Int) → PX12_tryLast_3  q x1 x3 x4 h ∧ QiT z 0 1 (FX12_tryLast_3  q x1 x3 x4 h) := by
  intro q
  induction q with
  | zero =>
    intro x1 x3 x4 h I f_x1 f_x3 f_x4 mq
    exact mu_zu f_x4 mq rfl
  | succ q ih =>
    intro x1 x3 x4 h I f_x1 f_x3 f_x4 mq
    unfold PX12_tryLast_3 FX12_tryLast_3
    refine sf_if (fun c1 => ?_) (fun c1 => ?_)
    · exact ⟨trivial, QiT_mk (iv_w (c := 0) (d := 1) (iv_lit (lo := 0) (hi := 0) (x := 0) rfl) rfl) I⟩
    · have f2 : iv 0 299 x4 := iv_ltl f_x4 f_x3 (nle c1) rfl
      have f3 : iv 1 300 x3 := iv_ltr f_x3 f_x4 (nle c1) rfl
      exact SX12_tryLast_12 (FX12_tryLast_3  q) (PX12_tryLast_3  q) q (fun x1 x3 x4 h p0 p1 p2 p3 pm => ih x1 x3 x4 h p0 p1 p2 p3 pm) 2000 x1 x3 x4 0 h I f_x1 f3 f2 (iv_w (c := 0) (d := 4) (iv_lit (lo := 0) (hi := 0) (x := 0) rfl) rfl) mq (mu_0u (iv_lit (lo := 0) (hi := 0) (x := 0) rfl) rfl)
set_option maxRecDepth 100000 in
set_option maxHeartbeats 4000000 in
theorem SX12_tryLast {z : zT} (a0 : Int32) (a1 : Int32) (a2 : Int32) (h : ph_H) (I : IT z h) (f_a0 : iv 0 1 a0) (f_a1 : iv 0 301 a1) (f_a2 : iv 0 300 a2) : PX12_tryLast a0 a1 a2 h ∧ QiT z 0 1 (FX12_tryLast a0 a1 a2 h) := by
  unfold PX12_tryLast FX12_tryLast
  exact SX12_tryLast_3 2000 a0 a2 a1 h I f_a0 f_a2 f_a1 (mu_0u f_a1 rfl)

set_option maxRecDepth 100000 in
set_option maxHeartbeats 4000000 in
theorem SX12_tryBoth_9 {z : zT} (L2 : Int32 → Int32 → ph_H → Int32 × ph_H) (LP2 : Int32 → Int32 → ph_H → Prop) (q2 : Nat) (hL2 : ∀ (x1 : Int32) (x2 : Int32) (h : ph_H), IT z h → iv 0 300 x1 → iv 1 301 x2 → 301 - (x2).toInt < ((q2 : Nat) : Int) → LP2 x1 x2 h ∧ QiT z 0 1 (L2 x1 x2 h)) : ∀ (q : Nat) (x1 : Int32) (x2 : Int32) (x3 : Int32) (h : ph_H), IT z h → iv 2 300 x1 → iv 1 300 x2 → iv 0 4 x3 → 301 - (x2).toInt < ((q2 + 1 : Nat) : Int) → 4 - (x3).toInt < ((q : Nat) : Int) → PX12_tryBoth_9 LP2 q x1 x2 x3 h ∧ QiT z 0 1 (FX12_tryBoth_9 L2 q x1 x2 x3 h) := by
  intro q
  induction q with
  | zero =>
    intro x1 x2 x3 h I f_x1 f_x2 f_x3 m2 mq
    exact mu_zu f_x3 mq rfl
  | succ q ih =>
    intro x1 x2 x3 h I f_x1 f_x2 f_x3 m2 mq
    unfold PX12_tryBoth_9 FX12_tryBoth_9
    refine sf_if (fun c1 => ?_) (fun c1 => ?_)
    · have f2 : iv 4 4 x3 := iv_ler f_x3 (iv_lit (lo := 4) (hi := 4) (x := 4) rfl) c1 rfl
      have f3 : iv 2 301 (x2 + 1) := iv_add f_x2 (iv_lit (lo := 1) (hi := 1) (x := 1) rfl) rfl
      exact hL2 x1 (x2 + 1) h I (iv_w (c := 0) (d := 300) f_x1 rfl) (iv_w (c := 1) (d := 301) f3 rfl) (mu_up f_x2 m2 rfl)
    · have f4 : iv 0 3 x3 := iv_ltl f_x3 (iv_lit (lo := 4) (hi := 4) (x := 4) rfl) (nle c1) rfl
      have I5 : IT z (hs h 0 74 1) := ITs I (k := 0) (i := 74) (v := 1) (iv_w (c := 0) (d := 2) (iv_lit (lo := 1) (hi := 1) (x := 1) rfl) rfl) rfl
      refine sf_n (iv_in (iv_lit (lo := 0) (hi := 0) (x := 0) rfl) rfl) ?_
      have I6 : IT z (hs (hs h 0 74 1) 42 (0 : Int32).toNatClampNeg x2) := ITs I5 (k := 42) (i := (0 : Int32).toNatClampNeg) (v := x2) (iv_any x2) rfl
      refine sf_n (iv_in (iv_lit (lo := 0) (hi := 0) (x := 0) rfl) rfl) ?_
      have I7 : IT z (hs (hs (hs h 0 74 1) 42 (0 : Int32).toNatClampNeg x2) 43 (0 : Int32).toNatClampNeg x3) := ITs I6 (k := 43) (i := (0 : Int32).toNatClampNeg) (v := x3) f4 rfl
      have s8 := SX12_tryRun (z := z) (hs (hs (hs h 0 74 1) 42 (0 : Int32).toNatClampNeg x2) 43 (0 : Int32).toNatClampNeg x3) I7
      refine sf_n s8.1 ?_
      unfold PX12_tryBoth_37 FX12_tryBoth_37
      refine sf_if (fun c9 => ?_) (fun c9 => ?_)
      · have f10 : iv 0 0 ((FX12_tryRun (hs (hs (hs h 0 74 1) 42 (0 : Int32).toNatClampNeg x2) 43 (0 : Int32).toNatClampNeg x3)).1) := iv_eql s8.2.1 (iv_lit (lo := 0) (hi := 0) (x := 0) rfl) c9 rfl
        unfold PX12_tryBoth_61 FX12_tryBoth_61
        have f11 : iv 1 4 (x3 + 1) := iv_add f4 (iv_lit (lo := 1) (hi := 1) (x := 1) rfl) rfl
        exact ih x1 x2 (x3 + 1) ((FX12_tryRun (hs (hs (hs h 0 74 1) 42 (0 : Int32).toNatClampNeg x2) 43 (0 : Int32).toNatClampNeg x3)).2) s8.2.2 f_x1 f_x2 (iv_w (c := 0) (d := 4) f11 rfl) m2 (mu_up f4 mq rfl)
      · have f12 : iv 1 1 ((FX12_tryRun (hs (hs (hs h 0 74 1) 42 (0 : Int32).toNatClampNeg x2) 43 (0 : Int32).toNatClampNeg x3)).1) := iv_nel s8.2.1 c9 rfl
        have f13 : iv 0 300 ((FX12_tryRun (hs (hs (hs h 0 74 1) 42 (0 : Int32).toNatClampNeg x2) 43 (0 : Int32).toNatClampNeg x3)).2 0 24) := ITv s8.2.2 0 _
        have f14 : iv 2 301 (x2 + 1) := iv_add f_x2 (iv_lit (lo := 1) (hi := 1) (x := 1) rfl) rfl
        have s15 := SX12_tryLast (z := z) 1 (x2 + 1) ((FX12_tryRun (hs (hs (hs h 0 74 1) 42 (0 : Int32).toNatClampNeg x2) 43 (0 : Int32).toNatClampNeg x3)).2 0 24) ((FX12_tryRun (hs (hs (hs h 0 74 1) 42 (0 : Int32).toNatClampNeg x2) 43 (0 : Int32).toNatClampNeg x3)).2) s8.2.2 (iv_w (c := 0) (d := 1) (iv_lit (lo := 1) (hi := 1) (x := 1) rfl) rfl) (iv_w (c := 0) (d := 301) f14 rfl) f13
        refine sf_n s15.1 ?_
        unfold PX12_tryBoth_56 FX12_tryBoth_56
        refine sf_if (fun c16 => ?_) (fun c16 => ?_)
        · have f17 : iv 0 0 ((FX12_tryLast 1 (x2 + 1) ((FX12_tryRun (hs (hs (hs h 0 74 1) 42 (0 : Int32).toNatClampNeg x2) 43 (0 : Int32).toNatClampNeg x3)).2 0 24) ((FX12_tryRun (hs (hs (hs h 0 74 1) 42 (0 : Int32).toNatClampNeg x2) 43 (0 : Int32).toNatClampNeg x3)).2)).1) := iv_eql s15.2.1 (iv_lit (lo := 0) (hi := 0) (x := 0) rfl) c16 rfl
          unfold PX12_tryBoth_61 FX12_tryBoth_61
          have f18 : iv 1 4 (x3 + 1) := iv_add f4 (iv_lit (lo := 1) (hi := 1) (x := 1) rfl) rfl
          exact ih x1 x2 (x3 + 1) ((FX12_tryLast 1 (x2 + 1) ((FX12_tryRun (hs (hs (hs h 0 74 1) 42 (0 : Int32).toNatClampNeg x2) 43 (0 : Int32).toNatClampNeg x3)).2 0 24) ((FX12_tryRun (hs (hs (hs h 0 74 1) 42 (0 : Int32).toNatClampNeg x2) 43 (0 : Int32).toNatClampNeg x3)).2)).2) s15.2.2 f_x1 f_x2 (iv_w (c := 0) (d := 4) f18 rfl) m2 (mu_up f4 mq rfl)
        · have f19 : iv 1 1 ((FX12_tryLast 1 (x2 + 1) ((FX12_tryRun (hs (hs (hs h 0 74 1) 42 (0 : Int32).toNatClampNeg x2) 43 (0 : Int32).toNatClampNeg x3)).2 0 24) ((FX12_tryRun (hs (hs (hs h 0 74 1) 42 (0 : Int32).toNatClampNeg x2) 43 (0 : Int32).toNatClampNeg x3)).2)).1) := iv_nel s15.2.1 c16 rfl
          exact ⟨trivial, QiT_mk (iv_w (c := 0) (d := 1) (iv_lit (lo := 1) (hi := 1) (x := 1) rfl) rfl) s15.2.2⟩
set_option maxRecDepth 100000 in
set_option maxHeartbeats 4000000 in
theorem SX12_tryBoth_2 {z : zT} : ∀ (q : Nat) (x1 : Int32) (x2 : Int32) (h : ph_H), IT z h → iv 0 300 x1 → iv 1 301 x2 → 301 - (x2).toInt < ((q : Nat) : Int) → PX12_tryBoth_2  q x1 x2 h ∧ QiT z 0 1 (FX12_tryBoth_2  q x1 x2 h) := by
  intro q
  induction q with
  | zero =>
    intro x1 x2 h I f_x1 f_x2 mq
    exact mu_zu f_x2 mq rfl
  | succ q ih =>
    intro x1 x2 h I f_x1 f_x2 mq
    unfold PX12_tryBoth_2 FX12_tryBoth_2
    refine sf_if (fun c1 => ?_) (fun c1 => ?_)
    · exact ⟨trivial, QiT_mk (iv_w (c := 0) (d := 1) (iv_lit (lo := 0) (hi := 0) (x := 0) rfl) rfl) I⟩
    · have f2 : iv 1 299 x2 := iv_ltl f_x2 f_x1 (nle c1) rfl
      have f3 : iv 2 300 x1 := iv_ltr f_x1 f_x2 (nle c1) rfl
      exact SX12_tryBoth_9 (FX12_tryBoth_2  q) (PX12_tryBoth_2  q) q (fun x1 x2 h p0 p1 p2 pm => ih x1 x2 h p0 p1 p2 pm) 2000 x1 x2 0 h I f3 (iv_w (c := 1) (d := 300) f2 rfl) (iv_w (c := 0) (d := 4) (iv_lit (lo := 0) (hi := 0) (x := 0) rfl) rfl) mq (mu_0u (iv_lit (lo := 0) (hi := 0) (x := 0) rfl) rfl)
set_option maxRecDepth 100000 in
set_option maxHeartbeats 4000000 in
theorem SX12_tryBoth {z : zT} (a0 : Int32) (h : ph_H) (I : IT z h) (f_a0 : iv 0 300 a0) : PX12_tryBoth a0 h ∧ QiT z 0 1 (FX12_tryBoth a0 h) := by
  unfold PX12_tryBoth FX12_tryBoth
  exact SX12_tryBoth_2 2000 a0 1 h I f_a0 (iv_w (c := 1) (d := 301) (iv_lit (lo := 1) (hi := 1) (x := 1) rfl) rfl) (mu_0u (iv_lit (lo := 1) (hi := 1) (x := 1) rfl) rfl)

set_option maxRecDepth 100000 in
set_option maxHeartbeats 4000000 in
theorem SX12_find {z : zT} (a0 : Int32) (a1 : Int32) (h : ph_H) (I : IT z h) : PX12_find a0 a1 h ∧ QiT z (-2147483648) 2147483647 (FX12_find a0 a1 h) := by
  unfold PX12_find FX12_find
  have I1 : IT z (hs h 0 0 0) := ITs I (k := 0) (i := 0) (v := 0) (iv_any 0) rfl
  refine sf_n isIn_p ?_
  refine sf_if (fun c2 => ?_) (fun c2 => ?_)
  · have f3 : iv 0 0 (FX12_isIn a0.toInt64 0 2) := iv_eql (isIn_b (x := a0.toInt64) (l := 0) (u := 2)) (iv_lit (lo := 0) (hi := 0) (x := 0) rfl) c2 rfl
    exact ⟨trivial, QiT_mk (iv_any (-1)) I1⟩
  · have f4 : iv 0 2 a0 := isIn_iv (iv_any a0) (lw_lit (lo := 0) (hi := 0) (x := 0) rfl) (lw_lit (lo := 2) (hi := 2) (x := 2) rfl) c2 rfl
    have f5 : iv 1 1 (FX12_isIn a0.toInt64 0 2) := iv_nel (isIn_b (x := a0.toInt64) (l := 0) (u := 2)) c2 rfl
    refine sf_n isIn_p ?_
    refine sf_if (fun c6 => ?_) (fun c6 => ?_)
    · have f7 : iv 0 0 (FX12_isIn a1.toInt64 1 100) := iv_eql (isIn_b (x := a1.toInt64) (l := 1) (u := 100)) (iv_lit (lo := 0) (hi := 0) (x := 0) rfl) c6 rfl
      exact ⟨trivial, QiT_mk (iv_any (-1)) I1⟩
    · have f8 : iv 1 100 a1 := isIn_iv (iv_any a1) (lw_lit (lo := 1) (hi := 1) (x := 1) rfl) (lw_lit (lo := 100) (hi := 100) (x := 100) rfl) c6 rfl
      have f9 : iv 1 1 (FX12_isIn a1.toInt64 1 100) := iv_nel (isIn_b (x := a1.toInt64) (l := 1) (u := 100)) c6 rfl
      have I10 : IT z (hs (hs h 0 0 0) 0 33 0) := ITk I1
      have I11 : IT z (hs (hs (hs h 0 0 0) 0 33 0) 0 67 0) := ITs I10 (k := 0) (i := 67) (v := 0) (iv_any 0) rfl
      have I12 : IT z (hs (hs (hs (hs h 0 0 0) 0 33 0) 0 67 0) 0 68 a1) := ITs I11 (k := 0) (i := 68) (v := a1) (iv_any a1) rfl
      have I13 : IT z (hs (hs (hs (hs (hs h 0 0 0) 0 33 0) 0 67 0) 0 68 a1) 0 69 0) := ITs I12 (k := 0) (i := 69) (v := 0) (iv_any 0) rfl
      have I14 : IT z (hs (hs (hs (hs (hs (hs h 0 0 0) 0 33 0) 0 67 0) 0 68 a1) 0 69 0) 0 74 0) := ITs I13 (k := 0) (i := 74) (v := 0) (iv_w (c := 0) (d := 2) (iv_lit (lo := 0) (hi := 0) (x := 0) rfl) rfl) rfl
      have s15 := SX12_tryRun (z := z) (hs (hs (hs (hs (hs (hs h 0 0 0) 0 33 0) 0 67 0) 0 68 a1) 0 69 0) 0 74 0) I14
      refine sf_n s15.1 ?_
      unfold PX12_find_60 FX12_find_60
      have f16 : iv 0 300 ((FX12_tryRun (hs (hs (hs (hs (hs (hs h 0 0 0) 0 33 0) 0 67 0) 0 68 a1) 0 69 0) 0 74 0)).2 0 24) := ITv s15.2.2 0 _
      have s17 := SX12_isOver_T (z := z) ((FX12_tryRun (hs (hs (hs (hs (hs (hs h 0 0 0) 0 33 0) 0 67 0) 0 68 a1) 0 69 0) 0 74 0)).2) s15.2.2
      refine sf_n s17.1 ?_
      unfold PX12_find_71 FX12_find_71
      refine sf_if (fun c18 => ?_) (fun c18 => ?_)
      · have f19 : iv 0 0 ((FX12_isOver ((FX12_tryRun (hs (hs (hs (hs (hs (hs h 0 0 0) 0 33 0) 0 67 0) 0 68 a1) 0 69 0) 0 74 0)).2)).1) := iv_eql s17.2.1 (iv_lit (lo := 0) (hi := 0) (x := 0) rfl) c18 rfl
        refine sf_if (fun c20 => ?_) (fun c20 => ?_)
        · have f21 : iv 0 0 a0 := iv_eql f4 (iv_lit (lo := 0) (hi := 0) (x := 0) rfl) c20 rfl
          unfold PX12_find_93 FX12_find_93
          unfold PX12_find_98 FX12_find_98
          refine sf_if (fun c22 => ?_) (fun c22 => ?_)
          · have f23 : iv 1 0 1 := iv_eql (iv_lit (lo := 1) (hi := 1) (x := 1) rfl) (iv_lit (lo := 0) (hi := 0) (x := 0) rfl) c22 rfl
            exact iv_no f23 rfl
          · unfold PX12_find_119 FX12_find_119
            exact ⟨trivial, QiT_mk (iv_any ((FX12_isOver ((FX12_tryRun (hs (hs (hs (hs (hs (hs h 0 0 0) 0 33 0) 0 67 0) 0 68 a1) 0 69 0) 0 74 0)).2)).2 0 69)) s17.2.2⟩
        · have f24 : iv 1 2 a0 := iv_nel f4 c20 rfl
          have s25 := SX12_tryLast (z := z) 0 1 ((FX12_tryRun (hs (hs (hs (hs (hs (hs h 0 0 0) 0 33 0) 0 67 0) 0 68 a1) 0 69 0) 0 74 0)).2 0 24) ((FX12_isOver ((FX12_tryRun (hs (hs (hs (hs (hs (hs h 0 0 0) 0 33 0) 0 67 0) 0 68 a1) 0 69 0) 0 74 0)).2)).2) s17.2.2 (iv_w (c := 0) (d := 1) (iv_lit (lo := 0) (hi := 0) (x := 0) rfl) rfl) (iv_w (c := 0) (d := 301) (iv_lit (lo := 1) (hi := 1) (x := 1) rfl) rfl) f16
          refine sf_n s25.1 ?_
          unfold PX12_find_90 FX12_find_90
          refine sf_if (fun c26 => ?_) (fun c26 => ?_)
          · have f27 : iv 0 0 ((FX12_tryLast 0 1 ((FX12_tryRun (hs (hs (hs (hs (hs (hs h 0 0 0) 0 33 0) 0 67 0) 0 68 a1) 0 69 0) 0 74 0)).2 0 24) ((FX12_isOver ((FX12_tryRun (hs (hs (hs (hs (hs (hs h 0 0 0) 0 33 0) 0 67 0) 0 68 a1) 0 69 0) 0 74 0)).2)).2)).1) := iv_eql s25.2.1 (iv_lit (lo := 0) (hi := 0) (x := 0) rfl) c26 rfl
            unfold PX12_find_98 FX12_find_98
            refine sf_if (fun c28 => ?_) (fun c28 => ?_)
            · refine sf_if (fun c29 => ?_) (fun c29 => ?_)
              · have f30 : iv 1 1 a0 := iv_eql f24 (iv_lit (lo := 1) (hi := 1) (x := 1) rfl) c29 rfl
                unfold PX12_find_119 FX12_find_119
                exact ⟨trivial, QiT_mk (iv_any ((FX12_tryLast 0 1 ((FX12_tryRun (hs (hs (hs (hs (hs (hs h 0 0 0) 0 33 0) 0 67 0) 0 68 a1) 0 69 0) 0 74 0)).2 0 24) ((FX12_isOver ((FX12_tryRun (hs (hs (hs (hs (hs (hs h 0 0 0) 0 33 0) 0 67 0) 0 68 a1) 0 69 0) 0 74 0)).2)).2)).2 0 69)) s25.2.2⟩
              · have f31 : iv 2 2 a0 := iv_nel f24 c29 rfl
                have s32 := SX12_tryBoth (z := z) ((FX12_tryRun (hs (hs (hs (hs (hs (hs h 0 0 0) 0 33 0) 0 67 0) 0 68 a1) 0 69 0) 0 74 0)).2 0 24) ((FX12_tryLast 0 1 ((FX12_tryRun (hs (hs (hs (hs (hs (hs h 0 0 0) 0 33 0) 0 67 0) 0 68 a1) 0 69 0) 0 74 0)).2 0 24) ((FX12_isOver ((FX12_tryRun (hs (hs (hs (hs (hs (hs h 0 0 0) 0 33 0) 0 67 0) 0 68 a1) 0 69 0) 0 74 0)).2)).2)).2) s25.2.2 f16
                refine sf_n s32.1 ?_
                unfold PX12_find_116 FX12_find_116
                refine sf_if (fun c33 => ?_) (fun c33 => ?_)
                · have f34 : iv 0 0 ((FX12_tryBoth ((FX12_tryRun (hs (hs (hs (hs (hs (hs h 0 0 0) 0 33 0) 0 67 0) 0 68 a1) 0 69 0) 0 74 0)).2 0 24) ((FX12_tryLast 0 1 ((FX12_tryRun (hs (hs (hs (hs (hs (hs h 0 0 0) 0 33 0) 0 67 0) 0 68 a1) 0 69 0) 0 74 0)).2 0 24) ((FX12_isOver ((FX12_tryRun (hs (hs (hs (hs (hs (hs h 0 0 0) 0 33 0) 0 67 0) 0 68 a1) 0 69 0) 0 74 0)).2)).2)).2)).1) := iv_eql s32.2.1 (iv_lit (lo := 0) (hi := 0) (x := 0) rfl) c33 rfl
                  exact ⟨trivial, QiT_mk (iv_any ((FX12_tryBoth ((FX12_tryRun (hs (hs (hs (hs (hs (hs h 0 0 0) 0 33 0) 0 67 0) 0 68 a1) 0 69 0) 0 74 0)).2 0 24) ((FX12_tryLast 0 1 ((FX12_tryRun (hs (hs (hs (hs (hs (hs h 0 0 0) 0 33 0) 0 67 0) 0 68 a1) 0 69 0) 0 74 0)).2 0 24) ((FX12_isOver ((FX12_tryRun (hs (hs (hs (hs (hs (hs h 0 0 0) 0 33 0) 0 67 0) 0 68 a1) 0 69 0) 0 74 0)).2)).2)).2)).2 0 69)) s32.2.2⟩
                · have f35 : iv 1 1 ((FX12_tryBoth ((FX12_tryRun (hs (hs (hs (hs (hs (hs h 0 0 0) 0 33 0) 0 67 0) 0 68 a1) 0 69 0) 0 74 0)).2 0 24) ((FX12_tryLast 0 1 ((FX12_tryRun (hs (hs (hs (hs (hs (hs h 0 0 0) 0 33 0) 0 67 0) 0 68 a1) 0 69 0) 0 74 0)).2 0 24) ((FX12_isOver ((FX12_tryRun (hs (hs (hs (hs (hs (hs h 0 0 0) 0 33 0) 0 67 0) 0 68 a1) 0 69 0) 0 74 0)).2)).2)).2)).1) := iv_nel s32.2.1 c33 rfl
                  unfold PX12_find_119 FX12_find_119
                  exact ⟨trivial, QiT_mk (iv_any ((FX12_tryBoth ((FX12_tryRun (hs (hs (hs (hs (hs (hs h 0 0 0) 0 33 0) 0 67 0) 0 68 a1) 0 69 0) 0 74 0)).2 0 24) ((FX12_tryLast 0 1 ((FX12_tryRun (hs (hs (hs (hs (hs (hs h 0 0 0) 0 33 0) 0 67 0) 0 68 a1) 0 69 0) 0 74 0)).2 0 24) ((FX12_isOver ((FX12_tryRun (hs (hs (hs (hs (hs (hs h 0 0 0) 0 33 0) 0 67 0) 0 68 a1) 0 69 0) 0 74 0)).2)).2)).2)).2 0 69)) s32.2.2⟩
            · exact absurd rfl c28
          · have f36 : iv 1 1 ((FX12_tryLast 0 1 ((FX12_tryRun (hs (hs (hs (hs (hs (hs h 0 0 0) 0 33 0) 0 67 0) 0 68 a1) 0 69 0) 0 74 0)).2 0 24) ((FX12_isOver ((FX12_tryRun (hs (hs (hs (hs (hs (hs h 0 0 0) 0 33 0) 0 67 0) 0 68 a1) 0 69 0) 0 74 0)).2)).2)).1) := iv_nel s25.2.1 c26 rfl
            unfold PX12_find_93 FX12_find_93
            unfold PX12_find_98 FX12_find_98
            refine sf_if (fun c37 => ?_) (fun c37 => ?_)
            · have f38 : iv 1 0 1 := iv_eql (iv_lit (lo := 1) (hi := 1) (x := 1) rfl) (iv_lit (lo := 0) (hi := 0) (x := 0) rfl) c37 rfl
              exact iv_no f38 rfl
            · unfold PX12_find_119 FX12_find_119
              exact ⟨trivial, QiT_mk (iv_any ((FX12_tryLast 0 1 ((FX12_tryRun (hs (hs (hs (hs (hs (hs h 0 0 0) 0 33 0) 0 67 0) 0 68 a1) 0 69 0) 0 74 0)).2 0 24) ((FX12_isOver ((FX12_tryRun (hs (hs (hs (hs (hs (hs h 0 0 0) 0 33 0) 0 67 0) 0 68 a1) 0 69 0) 0 74 0)).2)).2)).2 0 69)) s25.2.2⟩
      · have f39 : iv 1 1 ((FX12_isOver ((FX12_tryRun (hs (hs (hs (hs (hs (hs h 0 0 0) 0 33 0) 0 67 0) 0 68 a1) 0 69 0) 0 74 0)).2)).1) := iv_nel s17.2.1 c18 rfl
        unfold PX12_find_93 FX12_find_93
        unfold PX12_find_98 FX12_find_98
        refine sf_if (fun c40 => ?_) (fun c40 => ?_)
        · have f41 : iv 1 0 1 := iv_eql (iv_lit (lo := 1) (hi := 1) (x := 1) rfl) (iv_lit (lo := 0) (hi := 0) (x := 0) rfl) c40 rfl
          exact iv_no f41 rfl
        · unfold PX12_find_119 FX12_find_119
          exact ⟨trivial, QiT_mk (iv_any ((FX12_isOver ((FX12_tryRun (hs (hs (hs (hs (hs (hs h 0 0 0) 0 33 0) 0 67 0) 0 68 a1) 0 69 0) 0 74 0)).2)).2 0 69)) s17.2.2⟩
end MG_12_find
section MG_12_z
/-! What the calls that tell a program answer, by many, inputs and turns alone; the same of both sides. -/
abbrev in_ (a b : Int) (x : Int32) : Prop := a ≤ x.toInt ∧ x.toInt ≤ b
def zcR (z : zT) (t o : Int32) : Int32 := if in_ 0 3 t ∧ in_ 0 19 o then (if z 1 t.toNatClampNeg = 24 then (-2) else z 1 t.toNatClampNeg) else (-1)
def zcZ (z : zT) (t o : Int32) : zT := if in_ 0 3 t ∧ in_ 0 19 o then (if z 1 t.toNatClampNeg = 24 then z else hs z 1 t.toNatClampNeg (z 1 t.toNatClampNeg + 1)) else z
def zlR (z : zT) (t : Int32) : Int32 := if in_ 0 3 t then z 1 t.toNatClampNeg else (-1)
def zlZ (z : zT) (t : Int32) : zT := if in_ 0 3 t then hs z 1 t.toNatClampNeg 0 else z
def zeR (c : Int32) : Int32 := if in_ 0 11 c then 0 else (-1)
def ziR (z : zT) : Int32 := if z 0 7 = 30 then (-2) else z 0 7 + 1
def ziZ (z : zT) : zT := if z 0 7 = 30 then z else hs z 0 7 (z 0 7 + 1)
def ztR (z : zT) (t n : Int32) : Int32 := if in_ 0 3 t ∧ in_ 1 100 n then (if z 0 9 = 40 then (-2) else z 0 9 + 1) else (-1)
def ztZ (z : zT) (t n : Int32) : zT := if in_ 0 3 t ∧ in_ 1 100 n then (if z 0 9 = 40 then z else hs z 0 9 (z 0 9 + 1)) else z
def zfZ (z : zT) : zT := hs z 0 9 0
def QZ (r : Int32) (z : zT) (o : Int32 × ph_H) : Prop := o.1 = r ∧ IT z o.2
theorem QZ_mk {r x : Int32} {z : zT} {h : ph_H} (e : x = r) (I : IT z h) : QZ r z (x, h) := ⟨e, I⟩
theorem isIn_no {x : Int32} {l u : Int64} {a b : Int} (c : FX12_isIn x.toInt64 l u = 0) (q : (decide (l.toInt = a) && decide (u.toInt = b)) = true) : ¬ in_ a b x := by
  simp only [Bool.and_eq_true, decide_eq_true_eq] at q
  intro w
  refine isIn_f c ?_
  rw [Int64.le_iff_toInt_le, Int64.le_iff_toInt_le, Int32.toInt_toInt64]
  unfold in_ at w
  omega
theorem ITa {z : zT} {h : ph_H} (k i : Nat) {v : Int32} (I : IT z h) (t : (decide ((tM k i).1 = -2147483648) && decide ((tM k i).2 = 2147483647)) = true) (q : okM k i = true) : IT z (hs h k i v) := by
  obtain ⟨z', a, b, c⟩ := I
  exact ⟨z', a, IMa k i b t q, c⟩
theorem zm_1 {z z' : zT} {i : Nat} {v : Int32} (m : zm z z') : zm (hs z 1 i v) (hs z' 1 i v) := by
  refine ⟨fun j => ?_, ?_, ?_⟩
  · by_cases e : j = i
    · subst e
      rw [hz_e, hz_e]
    · rw [hs_o (fun w => e w.2), hs_o (fun w => e w.2)]
      exact m.1 j
  · rw [hz_k rfl, hz_k rfl]
    exact m.2.1
  · rw [hz_k rfl, hz_k rfl]
    exact m.2.2
theorem zm_7 {z z' : zT} {v : Int32} (m : zm z z') : zm (hs z 0 7 v) (hs z' 0 7 v) := by
  refine ⟨fun j => ?_, ?_, ?_⟩
  · rw [hz_k rfl, hz_k rfl]
    exact m.1 j
  · rw [hz_e, hz_e]
  · rw [hz_i rfl, hz_i rfl]
    exact m.2.2
theorem zm_9 {z z' : zT} {v : Int32} (m : zm z z') : zm (hs z 0 9 v) (hs z' 0 9 v) := by
  refine ⟨fun j => ?_, ?_, ?_⟩
  · rw [hz_k rfl, hz_k rfl]
    exact m.1 j
  · rw [hz_i rfl, hz_i rfl]
    exact m.2.1
  · rw [hz_e, hz_e]
theorem zm_o {z z' : zT} {k i : Nat} {v : Int32} (m : zm z z') (n1 : Nat.beq 1 k = false) (n0 : Nat.beq 0 k = false) : zm z (hs z' k i v) := ⟨fun j => (hz_k n1).trans (m.1 j), (hz_k n0).trans m.2.1, (hz_k n0).trans m.2.2⟩
set_option maxRecDepth 100000 in
theorem SX12_code {z : zT} (a0 a1 a2 a3 a4 : Int32) (h : ph_H) (I : IT z h) : PX12_code a0 a1 a2 a3 a4 h ∧ QZ (zcR z a0 a1) (zcZ z a0 a1) (FX12_code a0 a1 a2 a3 a4 h) := by
  have I0 : IT z (hs h 0 0 0) := ITa 0 0 I rfl rfl
  unfold PX12_code FX12_code
  have no : ¬ (in_ 0 3 a0 ∧ in_ 0 19 a1) → True ∧ QZ (zcR z a0 a1) (zcZ z a0 a1) ((-1 : Int32), hs h 0 0 0) := fun n => by
    unfold zcR zcZ
    rw [if_neg n, if_neg n]
    exact ⟨trivial, QZ_mk rfl I0⟩
  refine sf_n isIn_p (sf_if (fun c => no (fun w => isIn_no c rfl w.1)) (fun c1 => sf_n isIn_p (sf_if (fun c => no (fun w => isIn_no c rfl w.2)) (fun c2 => ?_))))
  have f0 : iv 0 3 a0 := isIn_iv (iv_any a0) (lw_lit (lo := 0) (hi := 0) (x := 0) rfl) (lw_lit (lo := 3) (hi := 3) (x := 3) rfl) c1 rfl
  have f1 : iv 0 19 a1 := isIn_iv (iv_any a1) (lw_lit (lo := 0) (hi := 0) (x := 0) rfl) (lw_lit (lo := 19) (hi := 19) (x := 19) rfl) c2 rfl
  have y : in_ 0 3 a0 ∧ in_ 0 19 a1 := ⟨f0, f1⟩
  obtain ⟨z1, m, i, e⟩ := I
  have eh : h 1 (a0.toNatClampNeg) = z 1 (a0.toNatClampNeg) := (IMz i 1 _ rfl).trans (m.1 _)
  unfold zcR zcZ
  rw [if_pos y, if_pos y]
  refine sf_n (iv_in f0 rfl) (sf_if (fun c => ?_) (fun c => ?_))
  · rw [if_pos (eh.symm.trans c), if_pos (eh.symm.trans c)]
    exact ⟨trivial, QZ_mk rfl I0⟩
  · have n : ¬ z 1 (a0.toNatClampNeg) = 24 := fun w => c (eh.trans w)
    rw [if_neg n, if_neg n]
    have g : iv 0 24 (h 1 (a0.toNatClampNeg)) := IMv i 1 _
    have g2 : iv 0 23 (h 1 (a0.toNatClampNeg)) := iv_nel (y := 24) g c rfl
    have fm : iv 0 72 (24 * a0) := iv_mul (c := 24) rfl f0 rfl
    have fi : iv 0 95 ((24 * a0) + (h 1 (a0.toNatClampNeg))) := iv_add fm g2 rfl
    have f3 : iv 0 24 ((h 1 (a0.toNatClampNeg)) + 1) := iv_w (c := 0) (d := 24) (iv_add (lo := 1) (hi := 24) g2 (iv_lit (lo := 1) (hi := 1) (x := 1) rfl) rfl) rfl
    refine sf_n (iv_in f0 rfl) (sf_n (iv_in fi rfl) (sf_n (iv_in fi rfl) (sf_n (iv_in fi rfl) (sf_n (iv_in fi rfl) (sf_n (iv_in f0 rfl) (sf_n (iv_in f0 rfl) (sf_n (iv_in f0 rfl) ⟨trivial, QZ_mk ?_ ?_⟩)))))))
    · rw [hz_e, eh]
      have t1 := ti_inc g2 rfl
      rw [eh] at t1
      apply Int32.toInt_inj.mp
      rw [eh] at g2
      unfold iv at g2
      rw [ti_sub (by rw [t1, ti_1]; omega) (by rw [t1, ti_1]; omega), t1, ti_1]
      omega
    · rw [← eh]
      exact ⟨_, zm_1 (zm_o m rfl rfl), IMg (k := 1) (IMa 5 _ (IMa 4 _ (IMa 3 _ (IMg (k := 2) (IMa 0 0 i rfl rfl) (iv_any a1) rfl) rfl rfl) rfl rfl) rfl rfl) (show iv 0 24 _ from f3) rfl, (hz_k rfl).trans ((hz_k rfl).trans e)⟩
theorem SX12_clear {z : zT} (a0 : Int32) (h : ph_H) (I : IT z h) : PX12_clear a0 h ∧ QZ (zlR z a0) (zlZ z a0) (FX12_clear a0 h) := by
  have I0 : IT z (hs h 0 0 0) := ITa 0 0 I rfl rfl
  unfold PX12_clear FX12_clear zlR zlZ
  refine sf_n isIn_p (sf_if (fun c => ?_) (fun c1 => ?_))
  · have n : ¬ in_ 0 3 a0 := isIn_no c rfl
    rw [if_neg n, if_neg n]
    exact ⟨trivial, QZ_mk rfl I0⟩
  · have f0 : iv 0 3 a0 := isIn_iv (iv_any a0) (lw_lit (lo := 0) (hi := 0) (x := 0) rfl) (lw_lit (lo := 3) (hi := 3) (x := 3) rfl) c1 rfl
    have y : in_ 0 3 a0 := f0
    rw [if_pos y, if_pos y]
    obtain ⟨z1, m, i, e⟩ := I
    have eh : h 1 (a0.toNatClampNeg) = z 1 (a0.toNatClampNeg) := (IMz i 1 _ rfl).trans (m.1 _)
    exact sf_n (iv_in f0 rfl) (sf_n (iv_in f0 rfl) ⟨trivial, QZ_mk eh ⟨_, zm_1 m, IMg (k := 1) (IMa 0 0 i rfl rfl) (show iv 0 24 0 from ⟨by decide, by decide⟩) rfl, (hz_k rfl).trans e⟩⟩)
theorem SX12_cell_T {z : zT} (a0 a1 : Int32) (h : ph_H) (I : IT z h) : PX12_cell a0 a1 h ∧ QZ (zeR a0) z (FX12_cell a0 a1 h) := by
  have I0 : IT z (hs h 0 0 0) := ITa 0 0 I rfl rfl
  unfold PX12_cell FX12_cell zeR
  refine sf_n isIn_p (sf_if (fun c => ?_) (fun c1 => ?_))
  · have n : ¬ in_ 0 11 a0 := isIn_no c rfl
    rw [if_neg n]
    exact ⟨trivial, QZ_mk rfl I0⟩
  · have f0 : iv 0 11 a0 := isIn_iv (iv_any a0) (lw_lit (lo := 0) (hi := 0) (x := 0) rfl) (lw_lit (lo := 11) (hi := 11) (x := 11) rfl) c1 rfl
    have y : in_ 0 11 a0 := f0
    rw [if_pos y]
    exact sf_n (iv_in f0 rfl) ⟨trivial, QZ_mk rfl (ITa 6 _ I0 rfl rfl)⟩
theorem SX12_input {z : zT} (a0 : Int32) (h : ph_H) (I : IT z h) : PX12_input a0 h ∧ QZ (ziR z) (ziZ z) (FX12_input a0 h) := by
  have I0 : IT z (hs h 0 0 0) := ITa 0 0 I rfl rfl
  obtain ⟨z1, m, i, e⟩ := I
  have eh : h 0 7 = z 0 7 := (IMz i 0 7 rfl).trans m.2.1
  unfold PX12_input FX12_input ziR ziZ
  refine sf_if (fun c => ?_) (fun c => ?_)
  · rw [if_pos (eh.symm.trans c), if_pos (eh.symm.trans c)]
    exact ⟨trivial, QZ_mk rfl I0⟩
  · have n : ¬ z 0 7 = 30 := fun w => c (eh.trans w)
    rw [if_neg n, if_neg n]
    have g : iv 0 30 (h 0 7) := IMv i 0 7
    have g2 : iv 0 29 (h 0 7) := iv_nel (y := 30) g c rfl
    have f3 : iv 0 30 ((h 0 7) + 1) := iv_w (c := 0) (d := 30) (iv_add (lo := 1) (hi := 30) g2 (iv_lit (lo := 1) (hi := 1) (x := 1) rfl) rfl) rfl
    refine sf_n (iv_in g2 rfl) ⟨trivial, QZ_mk (by rw [eh]) ?_⟩
    rw [← eh]
    exact ⟨_, zm_7 m, IMg (k := 0) (i := 7) (IMa 7 _ (IMa 0 0 i rfl rfl) rfl rfl) (show iv 0 30 _ from f3) rfl, (hz_i rfl).trans e⟩
theorem SX12_turn {z : zT} (a0 a1 : Int32) (h : ph_H) (I : IT z h) : PX12_turn a0 a1 h ∧ QZ (ztR z a0 a1) (ztZ z a0 a1) (FX12_turn a0 a1 h) := by
  have I0 : IT z (hs h 0 0 0) := ITa 0 0 I rfl rfl
  unfold PX12_turn FX12_turn
  have no : ¬ (in_ 0 3 a0 ∧ in_ 1 100 a1) → True ∧ QZ (ztR z a0 a1) (ztZ z a0 a1) ((-1 : Int32), hs h 0 0 0) := fun n => by
    unfold ztR ztZ
    rw [if_neg n, if_neg n]
    exact ⟨trivial, QZ_mk rfl I0⟩
  refine sf_n isIn_p (sf_if (fun c => no (fun w => isIn_no c rfl w.1)) (fun c1 => sf_n isIn_p (sf_if (fun c => no (fun w => isIn_no c rfl w.2)) (fun c2 => ?_))))
  have f0 : iv 0 3 a0 := isIn_iv (iv_any a0) (lw_lit (lo := 0) (hi := 0) (x := 0) rfl) (lw_lit (lo := 3) (hi := 3) (x := 3) rfl) c1 rfl
  have f1 : iv 1 100 a1 := isIn_iv (iv_any a1) (lw_lit (lo := 1) (hi := 1) (x := 1) rfl) (lw_lit (lo := 100) (hi := 100) (x := 100) rfl) c2 rfl
  have y : in_ 0 3 a0 ∧ in_ 1 100 a1 := ⟨f0, f1⟩
  obtain ⟨z1, m, i, e⟩ := I
  have eh : h 0 9 = z 0 9 := (IMz i 0 9 rfl).trans m.2.2
  unfold ztR ztZ
  rw [if_pos y, if_pos y]
  refine sf_if (fun c => ?_) (fun c => ?_)
  · rw [if_pos (eh.symm.trans c), if_pos (eh.symm.trans c)]
    exact ⟨trivial, QZ_mk rfl I0⟩
  · have n : ¬ z 0 9 = 40 := fun w => c (eh.trans w)
    rw [if_neg n, if_neg n]
    have g : iv 0 40 (h 0 9) := IMv i 0 9
    have g2 : iv 0 39 (h 0 9) := iv_nel (y := 40) g c rfl
    have f3 : iv 0 40 ((h 0 9) + 1) := iv_w (c := 0) (d := 40) (iv_add (lo := 1) (hi := 40) g2 (iv_lit (lo := 1) (hi := 1) (x := 1) rfl) rfl) rfl
    refine sf_n (iv_in g2 rfl) (sf_n (iv_in g2 rfl) ⟨trivial, QZ_mk (by rw [eh]) ?_⟩)
    rw [← eh]
    exact ⟨_, zm_9 m, IMg (k := 0) (i := 9) (IMs (k := 9) (IMs (k := 8) (IMa 0 0 i rfl rfl) (show iv 0 3 a0 from f0) rfl) (show iv 0 100 a1 from iv_w f1 rfl) rfl) (show iv 0 40 _ from f3) rfl, (hz_i rfl).trans e⟩
theorem SX12_freely {z : zT} (h : ph_H) (I : IT z h) : PX12_freely h ∧ QZ (z 0 9) (zfZ z) (FX12_freely h) := by
  obtain ⟨z1, m, i, e⟩ := I
  exact ⟨trivial, QZ_mk ((IMz i 0 9 rfl).trans m.2.2) ⟨_, zm_9 m, IMg (k := 0) (i := 9) (IMa 0 0 i rfl rfl) (show iv 0 40 0 from ⟨by decide, by decide⟩) rfl, (hz_i rfl).trans e⟩⟩
/-! keep and copy -/
theorem S_kp174 {z : zT} : ∀ (q : Nat) (x1 x2 x4 : Int32) (h : ph_H), IM z h → iv 0 7 x1 → (¬ x2 = 2 → iv 0 12 (h 45 (x1.toNatClampNeg))) → iv 0 60 x4 → 60 - x4.toInt < (q : Int) → PX12_keep__174 q x1 x2 x4 h ∧ Qi z 0 0 (FX12_keep__174 q x1 x2 x4 h) := by
  intro q
  induction q with
  | zero =>
    intro x1 x2 x4 h I f1 E f4 mq
    exact mu_zu f4 mq rfl
  | succ q ih =>
    intro x1 x2 x4 h I f1 E f4 mq
    unfold PX12_keep__174 FX12_keep__174
    have g : iv 0 60 (h 45 (x1.toNatClampNeg)) := IMv I 45 _
    have g38 : iv 0 300 (h 0 38) := IMv I 0 38
    refine sf_n (iv_in f1 rfl) (sf_if (fun _ => ⟨trivial, Qi_mk ⟨by decide, by decide⟩ I⟩) (fun c => ?_))
    have f5 : iv 0 59 x4 := iv_ltl f4 g (nle c) rfl
    have f6 : iv 0 479 ((60 * x1) + x4) := iv_add (iv_mul (c := 60) (lo := 0) (hi := 420) rfl f1 rfl) f5 rfl
    have f7 : iv 1 60 (x4 + 1) := iv_add f5 (iv_lit (lo := 1) (hi := 1) (x := 1) rfl) rfl
    have T : ∀ v : Int32, PX12_keep__246 (PX12_keep__174 q) x1 x2 x4 v ((60 * x1) + x4) h ∧ Qi z 0 0 (FX12_keep__246 (FX12_keep__174 q) x1 x2 x4 v ((60 * x1) + x4) h) := fun v => by
      unfold PX12_keep__246 FX12_keep__246
      exact sf_n (iv_in f6 rfl) (ih x1 x2 (x4 + 1) _ (IMa 48 _ I rfl rfl) f1 (fun n => iv_r (hz_k rfl) (E n)) (iv_w f7 rfl) (mu_up f5 mq rfl))
    refine sf_if (fun _ => sf_n (iv_in f7 rfl) (T _)) (fun n => ?_)
    have f8 : iv 0 11 x4 := iv_ltl f4 (E n) (nle c) rfl
    have f9 : iv 0 8411 ((28 * (h 0 38)) + x4) := iv_add (iv_mul (c := 28) (lo := 0) (hi := 8400) rfl g38 rfl) f8 rfl
    exact sf_n (iv_in f9 rfl) (sf_if (fun _ => sf_n (iv_in f9 rfl) (T _)) (fun _ => T _))
theorem S_kp170 {z : zT} {h : ph_H} {x1 x2 s0 : Int32} (I : IM z h) (f1 : iv 0 7 x1) (f0 : iv 0 60 s0) (E : ¬ x2 = 2 → iv 0 12 s0) : PX12_keep__170 x1 x2 s0 x1 h ∧ Qi z 0 0 (FX12_keep__170 x1 x2 s0 x1 h) := by
  unfold PX12_keep__170 FX12_keep__170
  exact sf_n (iv_in f1 rfl) (S_kp174 2000 x1 x2 0 _ (IMs (k := 45) I (show iv 0 60 s0 from f0) rfl) f1 (fun n => iv_r hz_e (E n)) ⟨by decide, by decide⟩ (by decide))
theorem S_kp63 {z : zT} {h : ph_H} {x1 x2 x3 : Int32} (I : IM z h) (f1 : iv 0 7 x1) (f2 : iv 0 3 x2) (E : x2 = 1 → iv 0 11 x3) : PX12_keep__63 x1 x2 x3 h ∧ Qi z 0 0 (FX12_keep__63 x1 x2 x3 h) := by
  unfold PX12_keep__63 FX12_keep__63
  have g38 : iv 0 300 (h 0 38) := IMv I 0 38
  have z0 : iv 0 60 (0 : Int32) := ⟨by decide, by decide⟩
  have I2 : IM z (hs (hs h 44 x1.toNatClampNeg x2) 45 x1.toNatClampNeg 0) := IMs (k := 45) (IMa 44 _ I rfl rfl) (show iv 0 60 0 from z0) rfl
  refine sf_n (iv_in f1 rfl) (sf_n (iv_in f1 rfl) (sf_if (fun c => ?_) (fun c => sf_if (fun _ => ⟨trivial, Qi_mk ⟨by decide, by decide⟩ I2⟩) (fun c2 => sf_if (fun c3 => ?_) (fun c3 => ?_)))))
  · have f3 := E c
    have f9 : iv 0 3611 ((12 * (h 0 38)) + x3) := iv_add (iv_mul (c := 12) (lo := 0) (hi := 3600) rfl g38 rfl) f3 rfl
    have g27 : iv 0 16 (h 27 (((12 * (h 0 38)) + x3).toNatClampNeg)) := IMv I 27 _
    exact sf_n (iv_in f1 rfl) (sf_n (iv_in f9 rfl) (sf_n (iv_in f1 rfl) (sf_n (iv_in f9 rfl) (sf_n (iv_in f1 rfl) ⟨trivial, Qi_mk ⟨by decide, by decide⟩ (IMs (k := 45) (IMa 47 _ (IMa 46 _ I2 rfl rfl) rfl rfl) (show iv 0 60 _ from iv_w g27 rfl) rfl)⟩))))
  · exact S_kp170 I2 f1 ⟨by decide, by decide⟩ (fun _ => ⟨by decide, by decide⟩)
  · have f22 : x2 = 2 := by
      have h1 : (1 : Int32).toInt = 1 := by decide
      have h2 : (2 : Int32).toInt = 2 := by decide
      have h3 : (3 : Int32).toInt = 3 := by decide
      have a := nle c2
      rw [Int32.lt_iff_toInt_lt] at a
      have b := ti_ne c3
      unfold iv at f2
      exact Int32.toInt_inj.mp (by omega)
    refine sf_if (fun _ => ?_) (fun c4 => ?_)
    · exact S_kp170 I2 f1 ⟨by decide, by decide⟩ (fun n => absurd f22 n)
    · have f38 : iv 0 60 (h 0 38) := iv_w (c := 0) (d := 60) (iv_lt (m := 59) g38 c4 rfl) rfl
      exact S_kp170 I2 f1 f38 (fun n => absurd f22 n)
theorem SX12_keep_ {z : zT} (a0 a1 a2 : Int32) (h : ph_H) (I : IM z h) : PX12_keep_ a0 a1 a2 h ∧ Qi z (-1) 0 (FX12_keep_ a0 a1 a2 h) := by
  have I0 : IM z (hs h 0 0 0) := IMa 0 0 I rfl rfl
  have N : True ∧ Qi z (-1) 0 ((-1 : Int32), hs h 0 0 0) := ⟨trivial, Qi_mk ⟨by decide, by decide⟩ I0⟩
  have s := SX12_isShelf a0
  unfold PX12_keep_ FX12_keep_
  refine sf_n s.1 (sf_if (fun _ => N) (fun c1 => sf_n isIn_p (sf_if (fun _ => N) (fun c2 => ?_))))
  have f0 : iv 0 7 a0 := s.2.2 c1
  have f1 : iv 0 3 a1 := isIn_iv (iv_any a1) (lw_lit (lo := 0) (hi := 0) (x := 0) rfl) (lw_lit (lo := 3) (hi := 3) (x := 3) rfl) c2 rfl
  have W : ∀ {o : Int32 × ph_H} {P : Prop}, P ∧ Qi z 0 0 o → P ∧ Qi z (-1) 0 o := fun w => ⟨w.1, iv_w w.2.1 rfl, w.2.2⟩
  have T : PX12_keep__35 a0 a1 a2 (hs h 0 0 0) ∧ Qi z (-1) 0 (FX12_keep__35 a0 a1 a2 (hs h 0 0 0)) := by
    unfold PX12_keep__35 FX12_keep__35
    have g38 : iv 0 300 (hs h 0 0 0 0 38) := IMv I0 0 38
    have g24 : iv 0 12 (hs h 0 0 0 24 ((hs h 0 0 0 0 38).toNatClampNeg)) := IMv I0 24 _
    refine sf_if (fun c => sf_n (iv_in g38 rfl) (sf_n isIn_p (sf_if (fun _ => N) (fun c3 => ?_)))) (fun c => ?_)
    · have f2 : iv 0 11 a2 := isIn_iv (iv_any a2) (lw_lit (lo := 0) (hi := 0) (x := 0) rfl) (lw_of (iv_sub (lo := -1) (hi := 11) g24 (iv_lit (lo := 1) (hi := 1) (x := 1) rfl) rfl)) c3 rfl
      exact W (S_kp63 I0 f0 f1 (fun _ => f2))
    · exact W (S_kp63 I0 f0 f1 (fun w => absurd w c))
  exact sf_if (fun _ => T) (fun _ => sf_if (fun _ => N) (fun _ => T))
theorem cp_ix {a b c : Int32} (fa : iv 0 7 a) (fb : iv 0 60 b) (fc : iv 0 60 c) (h : b.toInt + c.toInt < 60) : vp_in (((60 * a) + b) + c) 480 := by
  have h6 : (60 : Int32).toInt = 60 := by decide
  unfold iv at *
  have e1 : (60 * a).toInt = 60 * a.toInt := by rw [ti_mul, h6] <;> rw [h6] <;> omega
  have e2 : ((60 * a) + b).toInt = 60 * a.toInt + b.toInt := by rw [ti_add, e1] <;> rw [e1] <;> omega
  have e3 : (((60 * a) + b) + c).toInt = 60 * a.toInt + b.toInt + c.toInt := by rw [ti_add, e2] <;> rw [e2] <;> omega
  rw [vp_in_iff, e3]
  omega
theorem S_cp136 {z : zT} : ∀ (q : Nat) (x3 x4 x5 x6 : Int32) (h : ph_H), IM z h → iv 0 7 x3 → iv 0 60 x4 → iv 0 60 x5 → iv 0 60 x6 → x4.toInt + x5.toInt ≤ 60 → 60 - x6.toInt < (q : Int) → PX12_copy_136 q x3 x4 x5 x6 h ∧ Qi z (-2147483648) 2147483647 (FX12_copy_136 q x3 x4 x5 x6 h) := by
  intro q
  induction q with
  | zero =>
    intro x3 x4 x5 x6 h I f3 f4 f5 f6 r mq
    exact mu_zu f6 mq rfl
  | succ q ih =>
    intro x3 x4 x5 x6 h I f3 f4 f5 f6 r mq
    unfold PX12_copy_136 FX12_copy_136
    refine sf_if (fun _ => ⟨trivial, Qi_mk (iv_any _) I⟩) (fun c => ?_)
    have f7 : iv 0 59 x6 := iv_ltl f6 f5 (nle c) rfl
    have lt := nle c
    rw [Int32.lt_iff_toInt_lt] at lt
    exact sf_n (iv_in f7 rfl) (sf_n (cp_ix f3 f4 f6 (by omega)) (ih x3 x4 x5 (x6 + 1) _ (IMa 48 _ I rfl rfl) f3 f4 f5 (iv_w (iv_add (lo := 1) (hi := 60) f7 (iv_lit (lo := 1) (hi := 1) (x := 1) rfl) rfl) rfl) r (mu_up f7 mq rfl)))
theorem S_cp99 {z : zT} : ∀ (q : Nat) (x1 x2 x3 x4 x5 x6 : Int32) (h : ph_H), IM z h → iv 0 7 x1 → iv 0 60 x2 → iv 0 7 x3 → iv 0 60 x4 → iv 0 60 x5 → iv 0 60 x6 → x2.toInt + x5.toInt ≤ 60 → x4.toInt + x5.toInt ≤ 60 → 60 - x6.toInt < (q : Int) → PX12_copy_99 q x1 x2 x3 x4 x5 x6 h ∧ Qi z (-2147483648) 2147483647 (FX12_copy_99 q x1 x2 x3 x4 x5 x6 h) := by
  intro q
  induction q with
  | zero =>
    intro x1 x2 x3 x4 x5 x6 h I f1 f2 f3 f4 f5 f6 r1 r mq
    exact mu_zu f6 mq rfl
  | succ q ih =>
    intro x1 x2 x3 x4 x5 x6 h I f1 f2 f3 f4 f5 f6 r1 r mq
    unfold PX12_copy_99 FX12_copy_99
    refine sf_if (fun _ => S_cp136 2000 x3 x4 x5 0 h I f3 f4 f5 ⟨by decide, by decide⟩ r (by decide)) (fun c => ?_)
    have f7 : iv 0 59 x6 := iv_ltl f6 f5 (nle c) rfl
    have lt := nle c
    rw [Int32.lt_iff_toInt_lt] at lt
    exact sf_n (cp_ix f1 f2 f6 (by omega)) (sf_n (iv_in f7 rfl) (ih x1 x2 x3 x4 x5 (x6 + 1) _ (IMa 49 _ I rfl rfl) f1 f2 f3 f4 f5 (iv_w (iv_add (lo := 1) (hi := 60) f7 (iv_lit (lo := 1) (hi := 1) (x := 1) rfl) rfl) rfl) r1 r (mu_up f7 mq rfl)))
theorem hp_of {z : zT} {h : ph_H} {a0 a1 a2 : Int32} (I : IM z h) (c : ¬ FX12_hasPlaces a0 a1 a2 h = 0) : iv 0 60 a1 ∧ iv 0 60 a2 ∧ a1.toInt + a2.toInt ≤ 60 := by
  have g : iv 0 60 (h 45 (a0.toNatClampNeg)) := IMv I 45 _
  unfold FX12_hasPlaces at c
  have h0 : (0 : Int32).toInt = 0 := by decide
  by_cases c1 : a2 < 0
  · rw [if_pos c1] at c
    exact absurd rfl c
  · rw [if_neg c1] at c
    by_cases c2 : a1 < 0
    · rw [if_pos c2] at c
      exact absurd rfl c
    · rw [if_neg c2] at c
      by_cases c3 : h 45 (a0.toNatClampNeg) < a1
      · rw [if_pos c3] at c
        exact absurd rfl c
      · rw [if_neg c3] at c
        by_cases c4 : h 45 (a0.toNatClampNeg) - a1 < a2
        · rw [if_pos c4] at c
          exact absurd rfl c
        · rw [Int32.lt_iff_toInt_lt] at c1 c2 c3 c4
          unfold iv at *
          rw [ti_sub (by omega) (by omega)] at c4
          omega
theorem SX12_copy {z : zT} (a0 a1 a2 a3 a4 : Int32) (h : ph_H) (I : IM z h) : PX12_copy a0 a1 a2 a3 a4 h ∧ Qi z (-2147483648) 2147483647 (FX12_copy a0 a1 a2 a3 a4 h) := by
  have I0 : IM z (hs h 0 0 0) := IMa 0 0 I rfl rfl
  have N : ∀ v : Int32, True ∧ Qi z (-2147483648) 2147483647 (v, hs h 0 0 0) := fun v => ⟨trivial, Qi_mk (iv_any _) I0⟩
  have s := SX12_isShelf a0
  have s2 := SX12_isShelf a2
  unfold PX12_copy FX12_copy
  refine sf_n s.1 (sf_if (fun _ => N _) (fun c1 => sf_n s2.1 (sf_if (fun _ => N _) (fun c2 => ?_))))
  have f0 : iv 0 7 a0 := s.2.2 c1
  have f2 : iv 0 7 a2 := s2.2.2 c2
  have p1 := SX12_hasPlaces (z := z) a0 a1 a4 _ I0 f0
  have p2 := SX12_hasPlaces (z := z) a2 a3 a4 _ I0 f2
  refine sf_n (iv_in f0 rfl) (sf_if (fun _ => N _) (fun _ => sf_n (iv_in f2 rfl) (sf_if (fun _ => N _) (fun _ => sf_n (iv_in f0 rfl) (sf_if (fun _ => N _) (fun _ => sf_n (iv_in f0 rfl) (sf_n (iv_in f2 rfl) (sf_if (fun _ => sf_n p1.1 (sf_if (fun _ => N _) (fun c3 => sf_n p2.1 (sf_if (fun _ => N _) (fun c4 => ?_))))) (fun _ => N _)))))))))
  obtain ⟨q1, q2, q3⟩ := hp_of I0 c3
  obtain ⟨r1, r2, r3⟩ := hp_of I0 c4
  exact S_cp99 2000 a0 a1 a2 a3 a4 0 _ I0 f0 q1 f2 r1 q2 ⟨by decide, by decide⟩ q3 r3 (by decide)
end MG_12_z
