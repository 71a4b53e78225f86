section MG_17_jinv
/-! THE INVARIANT of the class -/
def tC (k i : Nat) : Int × Int := match k with
  | 0 => (match i with
    | 8 => (0, 1)
    | 9 => (0, 300)
    | 10 => (0, 300)
    | 11 => (0, 300)
    | _ => (-2147483648, 2147483647))
  | 1 => (match i with
    | 6 => (0, 30)
    | 7 => (0, 40)
    | _ => (-2147483648, 2147483647))
  | 2 => (0, 24)
  | 6 => (0, 3)
  | 7 => (0, 100)
  | 8 => (match i with
    | 6 => (0, 30)
    | 7 => (0, 40)
    | _ => (-2147483648, 2147483647))
  | 9 => (0, 24)
  | 13 => (0, 3)
  | 14 => (0, 100)
  | 15 => (match i with
    | 10 => (0, 12)
    | 12 => (0, 30)
    | 16 => (0, 4)
    | 17 => (0, 11)
    | _ => (-2147483648, 2147483647))
  | 16 => (0, 3)
  | 20 => (0, 11)
  | 22 => (0, 16)
  | 25 => (match i with
    | 10 => (0, 12)
    | 12 => (0, 30)
    | 16 => (0, 4)
    | 17 => (0, 11)
    | _ => (-2147483648, 2147483647))
  | 26 => (0, 3)
  | 30 => (0, 11)
  | 32 => (0, 16)
  | 35 => (match i with
    | 11 => (0, 300)
    | 12 => (0, 300)
    | 15 => (0, 12)
    | 16 => (0, 30)
    | _ => (-2147483648, 2147483647))
  | 36 => (0, 3)
  | 43 => (0, 4)
  | 44 => (0, 11)
  | 46 => (0, 3)
  | 47 => (match i with
    | 6 => (0, 1)
    | _ => (-2147483648, 2147483647))
  | 52 => (match i with
    | 6 => (0, 2)
    | 7 => (0, 300)
    | 9 => (0, 100)
    | 10 => (0, 1)
    | _ => (-2147483648, 2147483647))
  | 53 => (0, 300)
  | 54 => (0, 301)
  | 55 => (-1, 3)
  | _ => (-2147483648, 2147483647)
def gc (k i : Nat) : Bool := match k with
  | 0 => (match i with
    | 11 => true
    | _ => false)
  | 1 => (match i with
    | 6 => true
    | 7 => true
    | _ => false)
  | 2 => true
  | 35 => (match i with
    | 11 => true
    | 12 => true
    | _ => false)
  | 52 => (match i with
    | 6 => true
    | 7 => true
    | 9 => true
    | _ => false)
  | 53 => true
  | 54 => true
  | 55 => true
  | _ => false
def okR (k i : Nat) : Bool := match k with
  | 15 => (match i with
    | 16 => false
    | 17 => false
    | _ => true)
  | 16 => false
  | 17 => false
  | 26 => false
  | 27 => false
  | 43 => false
  | 44 => false
  | _ => true
def okC (k i : Nat) : Bool := !gc k i && okR k i
def IVc (h : ph_H) : Prop := ∀ k i, iv (tC k i).1 (tC k i).2 (h k i)
def KVs (h : ph_H) : Prop := ∀ i, h 16 i = 0 ∨ iv 0 11 (h 17 i)
def KVo (h : ph_H) : Prop := ∀ i, h 26 i = 0 ∨ iv 0 11 (h 27 i)
def MSm (h : ph_H) : Prop := h 15 16 = 4 → iv 0 3 (h 15 17)
def MTr (h : ph_H) : Prop := ∀ i, h 43 i = 4 → iv 0 3 (h 44 i)
def REc (h : ph_H) : Prop := KVs h ∧ KVo h ∧ MSm h ∧ MTr h
def ZC (z : zT) (h : ph_H) : Prop := ∀ k i, gc k i = true → h k i = z k i
def IC (z : zT) (h : ph_H) : Prop := IVc h ∧ REc h ∧ ZC z h
def QC (z : zT) (a b : Int) (o : Int32 × ph_H) : Prop := iv a b o.1 ∧ IC z o.2
theorem QC_mk {z : zT} {a b : Int} {x : Int32} {h : ph_H} (f : iv a b x) (I : IC z h) : QC z a b (x, h) := ⟨f, I⟩
theorem ICv {z : zT} {h : ph_H} (I : IC z h) (k i : Nat) : iv (tC k i).1 (tC k i).2 (h k i) := I.1 k i
theorem ICz {z : zT} {h : ph_H} (I : IC z h) (k i : Nat) (q : gc k i = true) : h k i = z k i := I.2.2 k i q
theorem IVc_s {h : ph_H} (I : IVc h) {k i : Nat} {v : Int32} (f : iv (tC k i).1 (tC k i).2 v) : IVc (hs h k i v) := by
  intro k' i'
  by_cases e : k' = k ∧ i' = i
  · obtain ⟨rfl, rfl⟩ := e
    rw [hz_e]
    exact f
  · rw [hs_o e]
    exact I k' i'
theorem ZC_s {z : zT} {h : ph_H} (I : ZC z h) {k i : Nat} {v : Int32} (q : gc k i = false) : ZC z (hs h k i v) := by
  intro k' i' e
  by_cases c : k' = k ∧ i' = i
  · obtain ⟨rfl, rfl⟩ := c
    rw [q] at e
    exact absurd e (by decide)
  · rw [hs_o c]
    exact I k' i' e
theorem ZC_g {z : zT} {h : ph_H} (I : ZC z h) {k i : Nat} {v : Int32} : ZC (hs z k i v) (hs h k i v) := by
  intro k' i' e
  by_cases c : k' = k ∧ i' = i
  · obtain ⟨rfl, rfl⟩ := c
    rw [hz_e, hz_e]
  · rw [hs_o c, hs_o c]
    exact I k' i' e
theorem REc_s {h : ph_H} (I : REc h) {k i : Nat} {v : Int32} (q : okR k i = true) : REc (hs h k i v) := by
  have n : ∀ k' i', okR k' i' = false → hs h k i v k' i' = h k' i' := fun k' i' e => hs_o (fun c => by
    obtain ⟨c1, c2⟩ := c
    subst c1 c2
    rw [q] at e
    exact absurd e (by decide))
  refine ⟨fun j => ?_, fun j => ?_, ?_, fun j => ?_⟩
  · rw [n 16 j rfl, n 17 j rfl]
    exact I.1 j
  · rw [n 26 j rfl, n 27 j rfl]
    exact I.2.1 j
  · unfold MSm
    rw [n 15 16 rfl, n 15 17 rfl]
    exact I.2.2.1
  · rw [n 43 j rfl, n 44 j rfl]
    exact I.2.2.2 j
theorem okC_z {k i : Nat} (q : okC k i = true) : gc k i = false ∧ okR k i = true := by
  unfold okC at q
  simp only [Bool.and_eq_true, Bool.not_eq_true'] at q
  exact q
theorem ICs {z : zT} {h : ph_H} (I : IC z h) {k i : Nat} {v : Int32} (f : iv (tC k i).1 (tC k i).2 v) (q : okC k i = true) : IC z (hs h k i v) := ⟨IVc_s I.1 f, REc_s I.2.1 (okC_z q).2, ZC_s I.2.2 (okC_z q).1⟩
theorem ICa {z : zT} {h : ph_H} (k i : Nat) {v : Int32} (I : IC z h) (t : (decide ((tC k i).1 = -2147483648) && decide ((tC k i).2 = 2147483647)) = true) (q : okC k i = true) : IC z (hs h k i v) := by
  simp only [Bool.and_eq_true, decide_eq_true_eq] at t
  refine ICs I ?_ q
  rw [t.1, t.2]
  exact iv_any v
theorem ICg {z : zT} {h : ph_H} (I : IC z h) {k i : Nat} {v : Int32} (f : iv (tC k i).1 (tC k i).2 v) (q : okR k i = true) : IC (hs z k i v) (hs h k i v) := ⟨IVc_s I.1 f, REc_s I.2.1 q, ZC_g I.2.2⟩
/-- a piece of a row into another -/
theorem hc_o {h : ph_H} {k0 k1 : Nat} {sp dp m : Int32} {k i : Nat} (e : ¬ k = k1) : hc h k0 k1 sp dp m k i = h k i := by
  unfold hc
  rw [va_up_ne _ _ e]
theorem hc_i {h : ph_H} {k0 k1 : Nat} {sp dp m : Int32} {i : Nat} : (∃ j, hc h k0 k1 sp dp m k1 i = h k0 j) ∨ hc h k0 k1 sp dp m k1 i = h k1 i := by
  unfold hc
  rw [va_up_self]
  unfold va_cpy
  split
  · exact Or.inl ⟨_, rfl⟩
  · exact Or.inr rfl
theorem ICcp {z : zT} {h : ph_H} (I : IC z h) {k0 k1 : Nat} {sp dp m : Int32} (q : ∀ i, okC k1 i = true) (t : ∀ i, decide ((tC k1 i).1 ≤ (tC k0 i).1) = true) (u : ∀ i, decide ((tC k0 i).2 ≤ (tC k1 i).2) = true) (c0 : ∀ i j, tC k0 i = tC k0 j := by intro i j; rfl) (c1 : ∀ i j, tC k1 i = tC k1 j := by intro i j; rfl) : IC z (hc h k0 k1 sp dp m) := by
  have n : ∀ k' i', okC k' i' = false → hc h k0 k1 sp dp m k' i' = h k' i' := fun k' i' e => hc_o (fun c => by
    subst c
    rw [q i'] at e
    exact absurd e (by decide))
  have nr : ∀ k' i', okR k' i' = false → hc h k0 k1 sp dp m k' i' = h k' i' := fun k' i' e => n k' i' (by unfold okC; rw [e]; simp)
  refine ⟨fun k i => ?_, ⟨fun j => ?_, fun j => ?_, ?_, fun j => ?_⟩, fun k i e => ?_⟩
  · by_cases c : k = k1
    · subst c
      rcases hc_i (h := h) (k0 := k0) (k1 := k) (sp := sp) (dp := dp) (m := m) (i := i) with ⟨j, w⟩ | w
      · rw [w]
        have f := I.1 k0 j
        have t' := t i
        have u' := u i
        simp only [decide_eq_true_eq] at t' u'
        rw [c0 j i] at f
        unfold iv at *
        omega
      · rw [w]
        exact I.1 k i
    · rw [hc_o c]
      exact I.1 k i
  · rw [nr 16 j rfl, nr 17 j rfl]
    exact I.2.1.1 j
  · rw [nr 26 j rfl, nr 27 j rfl]
    exact I.2.1.2.1 j
  · unfold MSm
    rw [nr 15 16 rfl, nr 15 17 rfl]
    exact I.2.1.2.2.1
  · rw [nr 43 j rfl, nr 44 j rfl]
    exact I.2.1.2.2.2 j
  · rw [n k i (by unfold okC; rw [e]; simp)]
    exact I.2.2 k i e
theorem cpok_iv {a b c d e f : Int} {x y m : Int32} {n0 n1 : Nat} (fx : iv a b x) (fy : iv c d y) (fm : iv e f m) (q : (decide (0 ≤ a) && decide (0 ≤ c) && decide (0 ≤ e) && decide (b + f ≤ (n0 : Int)) && decide (d + f ≤ (n1 : Int))) = true) : cpok x y m n0 n1 := by
  simp only [Bool.and_eq_true, decide_eq_true_eq] at q
  have h0 : (0 : Int32).toInt = 0 := by decide
  have t : ∀ v : Int32, v.toNatClampNeg = v.toInt.toNat := fun _ => rfl
  unfold iv at *
  unfold cpok
  rw [t, t, t, Int32.lt_iff_toInt_lt, Int32.lt_iff_toInt_lt, Int32.lt_iff_toInt_lt]
  omega
theorem iv_max {a b c d lo hi : Int} {x y : Int32} (fx : iv a b x) (fy : iv c d y) (q : ((decide (lo ≤ a) || decide (lo ≤ c)) && decide (b ≤ hi) && decide (d ≤ hi)) = true) : iv lo hi (if x < y then y else x) := by
  simp only [Bool.and_eq_true, Bool.or_eq_true, decide_eq_true_eq] at q
  split
  · rename_i h
    rw [Int32.lt_iff_toInt_lt] at h
    unfold iv at *
    omega
  · rename_i h
    rw [Int32.lt_iff_toInt_lt] at h
    unfold iv at *
    omega
theorem iv_div {a b c lo hi : Int} {x y : Int32} (fx : iv a b x) (q : (decide (0 ≤ a) && decide (y.toInt = c) && decide (1 ≤ c) && decide (lo ≤ a / c) && decide (b / c ≤ hi)) = true) : iv lo hi (x / y) := by
  simp only [Bool.and_eq_true, decide_eq_true_eq] at q
  obtain ⟨⟨⟨⟨q1, q2⟩, q3⟩, q4⟩, q5⟩ := q
  have ne : y ≠ -1 := fun e => by
    subst e
    have : (-1 : Int32).toInt = -1 := by decide
    omega
  unfold iv at *
  rw [Int32.toInt_div_of_ne_right x y ne, q2, Int.tdiv_eq_ediv_of_nonneg (by omega)]
  have h1 : a / c ≤ x.toInt / c := Int.ediv_le_ediv (by omega) fx.1
  have h2 : x.toInt / c ≤ b / c := Int.ediv_le_ediv (by omega) fx.2
  omega
theorem KVn_s {z : zT} {h : ph_H} (I : IC z h) {i : Nat} {a b : Int} (f : iv a b (h 16 i)) (q : decide (0 < a) = true) : iv 0 11 (h 17 i) := by
  rcases I.2.1.1 i with e | e
  · exact absurd e (iv_ne0 f (by simp only [decide_eq_true_eq] at q; simp [q]))
  · exact e
/-- a slot gets a kind and a number -/
theorem ICkv_s {z : zT} {h : ph_H} (I : IC z h) (i : Nat) {k v : Int32} (f : iv 0 3 k) (q : k = 0 ∨ iv 0 11 v) : IC z (hs (hs h 16 i k) 17 i v) := by
  have n : ∀ k' i', ¬ k' = 16 → ¬ k' = 17 → hs (hs h 16 i k) 17 i v k' i' = h k' i' := fun k' i' a b => by
    rw [hs_o (fun c => b c.1), hs_o (fun c => a c.1)]
  refine ⟨IVc_s (k := 17) (i := i) (IVc_s (k := 16) (i := i) I.1 f) (iv_any v), ?_, ZC_s (ZC_s I.2.2 rfl) rfl⟩
  have own : ∀ j, hs (hs h 16 i k) 17 i v 16 j = 0 ∨ iv 0 11 (hs (hs h 16 i k) 17 i v 17 j) := fun j => by
    by_cases e : j = i
    · subst e
      rw [hz_e, hs_o (fun c => absurd c.1 (by decide)), hz_e]
      exact q
    · rw [hs_o (fun c => absurd c.1 (by decide)), hs_o (fun c => e c.2), hs_o (fun c => e c.2), hs_o (fun c => absurd c.1 (by decide))]
      exact I.2.1.1 j
  refine ⟨own, fun j => by rw [n _ _ (by decide) (by decide), n _ _ (by decide) (by decide)]; exact I.2.1.2.1 j, ?_, fun j => ?_⟩
  · unfold MSm
    rw [n _ _ (by decide) (by decide), n _ _ (by decide) (by decide)]
    exact I.2.1.2.2.1
  · rw [n _ _ (by decide) (by decide), n _ _ (by decide) (by decide)]
    exact I.2.1.2.2.2 j
theorem KVn_o {z : zT} {h : ph_H} (I : IC z h) {i : Nat} {a b : Int} (f : iv a b (h 26 i)) (q : decide (0 < a) = true) : iv 0 11 (h 27 i) := by
  rcases I.2.1.2.1 i with e | e
  · exact absurd e (iv_ne0 f (by simp only [decide_eq_true_eq] at q; simp [q]))
  · exact e
/-- a slot gets a kind and a number -/
theorem ICkv_o {z : zT} {h : ph_H} (I : IC z h) (i : Nat) {k v : Int32} (f : iv 0 3 k) (q : k = 0 ∨ iv 0 11 v) : IC z (hs (hs h 26 i k) 27 i v) := by
  have n : ∀ k' i', ¬ k' = 26 → ¬ k' = 27 → hs (hs h 26 i k) 27 i v k' i' = h k' i' := fun k' i' a b => by
    rw [hs_o (fun c => b c.1), hs_o (fun c => a c.1)]
  refine ⟨IVc_s (k := 27) (i := i) (IVc_s (k := 26) (i := i) I.1 f) (iv_any v), ?_, ZC_s (ZC_s I.2.2 rfl) rfl⟩
  have own : ∀ j, hs (hs h 26 i k) 27 i v 26 j = 0 ∨ iv 0 11 (hs (hs h 26 i k) 27 i v 27 j) := fun j => by
    by_cases e : j = i
    · subst e
      rw [hz_e, hs_o (fun c => absurd c.1 (by decide)), hz_e]
      exact q
    · rw [hs_o (fun c => absurd c.1 (by decide)), hs_o (fun c => e c.2), hs_o (fun c => e c.2), hs_o (fun c => absurd c.1 (by decide))]
      exact I.2.1.2.1 j
  refine ⟨fun j => by rw [n _ _ (by decide) (by decide), n _ _ (by decide) (by decide)]; exact I.2.1.1 j, own, ?_, fun j => ?_⟩
  · unfold MSm
    rw [n _ _ (by decide) (by decide), n _ _ (by decide) (by decide)]
    exact I.2.1.2.2.1
  · rw [n _ _ (by decide) (by decide), n _ _ (by decide) (by decide)]
    exact I.2.1.2.2.2 j
/-- what the seen machine's step did: a mark, and what it is of -/
theorem ICmm {z : zT} {h : ph_H} (I : IC z h) {m d : Int32} (f : iv 0 4 m) (g : iv 0 11 d) (q : m = 4 → iv 0 3 d) : IC z (hs (hs h 15 16 m) 15 17 d) := by
  have n : ∀ k' i', ¬ (k' = 15 ∧ i' = 16) → ¬ (k' = 15 ∧ i' = 17) → hs (hs h 15 16 m) 15 17 d k' i' = h k' i' := fun k' i' a b => by
    rw [hs_o b, hs_o a]
  refine ⟨IVc_s (k := 15) (i := 17) (IVc_s (k := 15) (i := 16) I.1 f) g, ⟨fun j => ?_, fun j => ?_, ?_, fun j => ?_⟩, ZC_s (ZC_s I.2.2 rfl) rfl⟩
  · rw [n _ _ (fun c => absurd c.1 (by decide)) (fun c => absurd c.1 (by decide)), n _ _ (fun c => absurd c.1 (by decide)) (fun c => absurd c.1 (by decide))]
    exact I.2.1.1 j
  · rw [n _ _ (fun c => absurd c.1 (by decide)) (fun c => absurd c.1 (by decide)), n _ _ (fun c => absurd c.1 (by decide)) (fun c => absurd c.1 (by decide))]
    exact I.2.1.2.1 j
  · unfold MSm
    rw [hz_e, hs_o (fun c => absurd c.2 (by decide)), hz_e]
    exact q
  · rw [n _ _ (fun c => absurd c.1 (by decide)) (fun c => absurd c.1 (by decide)), n _ _ (fun c => absurd c.1 (by decide)) (fun c => absurd c.1 (by decide))]
    exact I.2.1.2.2.2 j
/-- a mark alone, which is no start -/
theorem ICm1 {z : zT} {h : ph_H} (I : IC z h) {m : Int32} (f : iv 0 4 m) (q : ¬ m = 4) : IC z (hs h 15 16 m) := by
  have n : ∀ k' i', ¬ (k' = 15 ∧ i' = 16) → hs h 15 16 m k' i' = h k' i' := fun k' i' a => hs_o a
  refine ⟨IVc_s (k := 15) (i := 16) I.1 f, ⟨fun j => ?_, fun j => ?_, ?_, fun j => ?_⟩, ZC_s I.2.2 rfl⟩
  · rw [n _ _ (fun c => absurd c.1 (by decide)), n _ _ (fun c => absurd c.1 (by decide))]
    exact I.2.1.1 j
  · rw [n _ _ (fun c => absurd c.1 (by decide)), n _ _ (fun c => absurd c.1 (by decide))]
    exact I.2.1.2.1 j
  · unfold MSm
    rw [hz_e]
    exact fun e => absurd e q
  · rw [n _ _ (fun c => absurd c.1 (by decide)), n _ _ (fun c => absurd c.1 (by decide))]
    exact I.2.1.2.2.2 j
/-- a step's mark is noted -/
theorem ICmt {z : zT} {h : ph_H} (I : IC z h) (i : Nat) {m d : Int32} (f : iv 0 4 m) (g : iv 0 11 d) (q : m = 4 → iv 0 3 d) : IC z (hs (hs h 43 i m) 44 i d) := by
  have n : ∀ k' i', ¬ k' = 43 → ¬ k' = 44 → hs (hs h 43 i m) 44 i d k' i' = h k' i' := fun k' i' a b => by
    rw [hs_o (fun c => b c.1), hs_o (fun c => a c.1)]
  refine ⟨IVc_s (k := 44) (i := i) (IVc_s (k := 43) (i := i) I.1 f) g, ⟨fun j => ?_, fun j => ?_, ?_, fun j => ?_⟩, ZC_s (ZC_s I.2.2 rfl) rfl⟩
  · rw [n _ _ (by decide) (by decide), n _ _ (by decide) (by decide)]
    exact I.2.1.1 j
  · rw [n _ _ (by decide) (by decide), n _ _ (by decide) (by decide)]
    exact I.2.1.2.1 j
  · unfold MSm
    rw [n _ _ (by decide) (by decide), n _ _ (by decide) (by decide)]
    exact I.2.1.2.2.1
  · by_cases e : j = i
    · subst e
      rw [hz_e, hs_o (fun c => absurd c.1 (by decide)), hz_e]
      exact q
    · rw [hs_o (fun c => absurd c.1 (by decide)), hs_o (fun c => e c.2), hs_o (fun c => e c.2), hs_o (fun c => absurd c.1 (by decide))]
      exact I.2.1.2.2.2 j
end MG_17_jinv
section MG_17_k
/-! floorMod by a small number -/
theorem xor_nn {x n : Int32} (hn : 0 ≤ n.toInt) : 0 ≤ (x ^^^ n).toInt ↔ 0 ≤ x.toInt := by
  have h1 : (x ^^^ n).toBitVec.msb = (x.toBitVec.msb ^^ n.toBitVec.msb) := by rw [Int32.toBitVec_xor, BitVec.msb_xor]
  rw [BitVec.msb_eq_toInt, BitVec.msb_eq_toInt, BitVec.msb_eq_toInt] at h1
  have e : ∀ y : Int32, y.toBitVec.toInt = y.toInt := fun _ => rfl
  rw [e, e, e] at h1
  have h2 : decide (n.toInt < 0) = false := by
    rw [decide_eq_false_iff_not]
    omega
  rw [h2, Bool.xor_false] at h1
  have h3 := decide_eq_decide.mp h1
  omega
theorem irem_np {b : Int} {x n : Int32} {m : Int} (hn : n.toInt = m) (h1 : 1 ≤ m) (h2 : m ≤ 1000) (hx : x.toInt ≤ 0) : iv (1 - m) 0 (x - x / n * n) := by
  obtain ⟨e1, e2⟩ := irem_ti (x := x) hn h1 h2
  have hr1 : -m < x.toInt.tmod m := Int.lt_tmod_of_pos x.toInt (by omega)
  have hs := Int.tmod_nonneg (a := -x.toInt) m (by omega)
  rw [Int.neg_tmod] at hs
  unfold iv
  rw [e1, e2]
  omega
theorem fmod_p {x n : Int32} {m : Int} (hn : n.toInt = m) (hm : 1 ≤ m) : PJ9_floorMod_7cf53 x n := by
  have h : ¬ n = 0 := fun e => by
    subst e
    have : (0 : Int32).toInt = 0 := by decide
    omega
  exact ⟨h, fun _ => trivial, fun _ => ⟨fun _ => trivial, fun _ => trivial⟩⟩
theorem fmod_iv {x n : Int32} {m hi : Int} (q : (decide (n.toInt = m) && decide (1 ≤ m) && decide (m ≤ 1000) && decide (m = hi + 1)) = true) : iv 0 hi (FJ9_floorMod_7cf53 x n) := by
  simp only [Bool.and_eq_true, decide_eq_true_eq] at q
  obtain ⟨⟨⟨hn, h1⟩, h2⟩, h3⟩ := q
  have h0 : (0 : Int32).toInt = 0 := by decide
  have xn := xor_nn (x := x) (n := n) (by omega)
  have e : hi = m - 1 := by omega
  rw [e]
  unfold FJ9_floorMod_7cf53
  split
  · rename_i c
    rw [Int32.le_iff_toInt_le, h0] at c
    exact irem_nn (a := 0) (b := 2147483647) hn h1 h2 (by have := iv_any x; unfold iv at *; exact ⟨xn.mp c, this.2⟩) (by omega)
  · rename_i c
    rw [Int32.le_iff_toInt_le, h0] at c
    have f := irem_np (b := 0) (x := x) hn h1 h2 (by
      have : ¬ 0 ≤ x.toInt := fun z => c (xn.mpr z)
      omega)
    split
    · rename_i d
      rw [d]
      unfold iv
      rw [h0]
      omega
    · rename_i d
      have d2 := ti_ne d
      rw [h0] at d2
      unfold iv at *
      rw [ti_add (by omega) (by omega)]
      omega
end MG_17_k
section MG_18_s00
-- X11_isThread
set_option maxRecDepth 100000 in
set_option maxHeartbeats 4000000 in
theorem SX11_isThread  (a0 : Int32) : PX11_isThread a0 ∧ Qc 0 1 (fun r => ¬ r = 0 → iv 0 3 a0) (FX11_isThread a0) := by
  unfold PX11_isThread FX11_isThread
  refine sf_if (fun c1 => ?_) (fun c1 => ?_)
  · have f2 : iv (-2147483648) (-1) a0 := iv_ltl (iv_any a0) (iv_lit (lo := 0) (hi := 0) (x := 0) rfl) c1 rfl
    exact ⟨trivial, (iv_w (c := 0) (d := 1) (iv_lit (lo := 0) (hi := 0) (x := 0) rfl) rfl), fun z => absurd rfl z⟩
  · have f3 : iv 0 2147483647 a0 := iv_ler (iv_any a0) (iv_lit (lo := 0) (hi := 0) (x := 0) rfl) (nlt c1) rfl
    refine sf_if (fun c4 => ?_) (fun c4 => ?_)
    · have f5 : iv 4 2147483647 a0 := iv_ler f3 (iv_lit (lo := 4) (hi := 4) (x := 4) rfl) c4 rfl
      exact ⟨trivial, (iv_w (c := 0) (d := 1) (iv_lit (lo := 0) (hi := 0) (x := 0) rfl) rfl), fun z => absurd rfl z⟩
    · have f6 : iv 0 3 a0 := iv_ltl f3 (iv_lit (lo := 4) (hi := 4) (x := 4) rfl) (nle c4) rfl
      exact ⟨trivial, (iv_w (c := 0) (d := 1) (iv_lit (lo := 1) (hi := 1) (x := 1) rfl) rfl), fun _ => f6⟩

-- X5_firstPart_n
set_option maxRecDepth 100000 in
set_option maxHeartbeats 4000000 in
theorem SX5_firstPart_n {z : zT} (a0 : Int32) (a1 : Int32) (h : ph_H) (I : IC z h) (f_a0 : iv 0 3 a0) (f_a1 : iv 0 23 a1) : PX5_firstPart_n a0 a1 h ∧ iv 0 380 (FX5_firstPart_n a0 a1 h) := by
  unfold PX5_firstPart_n FX5_firstPart_n
  have f1 : iv 0 72 (a0 * 24) := iv_mulr (c := 24) rfl f_a0 rfl
  have f2 : iv 0 95 ((a0 * 24) + a1) := iv_add f1 f_a1 rfl
  have f3 : iv 0 380 (((a0 * 24) + a1) * 4) := iv_mulr (c := 4) rfl f2 rfl
  exact ⟨trivial, f3⟩

-- X11_isCell
set_option maxRecDepth 100000 in
set_option maxHeartbeats 4000000 in
theorem SX11_isCell  (a0 : Int32) : PX11_isCell a0 ∧ Qc 0 1 (fun r => ¬ r = 0 → iv 0 11 a0) (FX11_isCell a0) := by
  unfold PX11_isCell FX11_isCell
  refine sf_if (fun c1 => ?_) (fun c1 => ?_)
  · have f2 : iv (-2147483648) (-1) a0 := iv_ltl (iv_any a0) (iv_lit (lo := 0) (hi := 0) (x := 0) rfl) c1 rfl
    exact ⟨trivial, (iv_w (c := 0) (d := 1) (iv_lit (lo := 0) (hi := 0) (x := 0) rfl) rfl), fun z => absurd rfl z⟩
  · have f3 : iv 0 2147483647 a0 := iv_ler (iv_any a0) (iv_lit (lo := 0) (hi := 0) (x := 0) rfl) (nlt c1) rfl
    refine sf_if (fun c4 => ?_) (fun c4 => ?_)
    · have f5 : iv 12 2147483647 a0 := iv_ler f3 (iv_lit (lo := 12) (hi := 12) (x := 12) rfl) c4 rfl
      exact ⟨trivial, (iv_w (c := 0) (d := 1) (iv_lit (lo := 0) (hi := 0) (x := 0) rfl) rfl), fun z => absurd rfl z⟩
    · have f6 : iv 0 11 a0 := iv_ltl f3 (iv_lit (lo := 12) (hi := 12) (x := 12) rfl) (nle c4) rfl
      exact ⟨trivial, (iv_w (c := 0) (d := 1) (iv_lit (lo := 1) (hi := 1) (x := 1) rfl) rfl), fun _ => f6⟩

-- X11_cell
set_option maxRecDepth 100000 in
set_option maxHeartbeats 4000000 in
theorem SX11_cell {z : zT} (a0 : Int32) (a1 : Int32) (h : ph_H) (I : IC z h) : PX11_cell a0 a1 h ∧ QC z (-1) 0 (FX11_cell a0 a1 h) := by
  unfold PX11_cell FX11_cell
  have s1 := SX11_isCell a0 
  refine sf_n s1.1 ?_
  refine sf_if (fun c2 => ?_) (fun c2 => ?_)
  · have f3 : iv 0 0 (FX11_isCell a0) := iv_eql s1.2.1 (iv_lit (lo := 0) (hi := 0) (x := 0) rfl) c2 rfl
    exact ⟨trivial, QC_mk (iv_w (c := (-1)) (d := 0) (iv_lit (lo := (-1)) (hi := (-1)) (x := (-1)) rfl) rfl) I⟩
  · have f4 : iv 0 11 a0 := iv_and (iv_any _) (s1.2.2 c2) rfl
    have f5 : iv 1 1 (FX11_isCell a0) := iv_nel s1.2.1 c2 rfl
    refine sf_n (iv_in f4 rfl) ?_
    have I6 : IC z (hs h 4 a0.toNatClampNeg a1) := ICs I (k := 4) (i := a0.toNatClampNeg) (v := a1) (iv_any a1) rfl
    exact ⟨trivial, QC_mk (iv_w (c := (-1)) (d := 0) (iv_lit (lo := 0) (hi := 0) (x := 0) rfl) rfl) I6⟩

-- X10_latestThread
set_option maxRecDepth 100000 in
set_option maxHeartbeats 4000000 in
theorem SX10_latestThread {z : zT} (h : ph_H) (I : IC z h) : PX10_latestThread h ∧ iv 0 3 (FX10_latestThread h) := by
  unfold PX10_latestThread FX10_latestThread
  have f1 : iv 0 300 (h 35 11) := ICv I 35 _
  refine sf_if (fun c2 => ?_) (fun c2 => ?_)
  · have f3 : iv 0 0 (h 35 11) := iv_lel f1 (iv_lit (lo := 0) (hi := 0) (x := 0) rfl) c2 rfl
    exact ⟨trivial, (iv_w (c := 0) (d := 3) (iv_lit (lo := 0) (hi := 0) (x := 0) rfl) rfl)⟩
  · have f4 : iv 1 300 (h 35 11) := iv_ltr f1 (iv_lit (lo := 0) (hi := 0) (x := 0) rfl) (nle c2) rfl
    refine sf_if (fun c5 => ?_) (fun c5 => ?_)
    · have f6 : iv 300 299 300 := iv_ltl (iv_lit (lo := 300) (hi := 300) (x := 300) rfl) f4 c5 rfl
      exact iv_no f6 rfl
    · refine sf_n (iv_in f4 rfl) ?_
      have f7 : iv 0 3 (h 36 ((h 35 11).toNatClampNeg)) := ICv I 36 _
      exact ⟨trivial, f7⟩

-- X10_noteEffects_s
set_option maxRecDepth 100000 in
set_option maxHeartbeats 4000000 in
theorem SX10_noteEffects_s {z : zT} (h : ph_H) (I : IC z h) : PX10_noteEffects_s h ∧ IC z (FX10_noteEffects_s h) := by
  unfold PX10_noteEffects_s FX10_noteEffects_s
  have f1 : iv 0 300 (h 35 11) := ICv I 35 _
  refine sf_n (iv_in f1 rfl) ?_
  have I2 : IC z (hs h 39 (h 35 11).toNatClampNeg (h 15 14)) := ICs I (k := 39) (i := (h 35 11).toNatClampNeg) (v := (h 15 14)) (iv_any (h 15 14)) rfl
  refine sf_n (iv_in f1 rfl) ?_
  have I3 : IC z (hs (hs h 39 (h 35 11).toNatClampNeg (h 15 14)) 40 (h 35 11).toNatClampNeg (h 15 15)) := ICs I2 (k := 40) (i := (h 35 11).toNatClampNeg) (v := (h 15 15)) (iv_any (h 15 15)) rfl
  refine sf_if (fun c4 => ?_) (fun c4 => ?_)
  · have f5 : iv (-2147483648) (-1) (h 15 15) := iv_ltl (iv_any (h 15 15)) (iv_lit (lo := 0) (hi := 0) (x := 0) rfl) c4 rfl
    unfold PX10_noteEffects_s_68 FX10_noteEffects_s_68
    have f6 : iv 0 300 ((hs (hs h 39 (h 35 11).toNatClampNeg (h 15 14)) 40 (h 35 11).toNatClampNeg (h 15 15)) 35 11) := ICv I3 35 _
    have f7 : iv 0 4 ((hs (hs h 39 (h 35 11).toNatClampNeg (h 15 14)) 40 (h 35 11).toNatClampNeg (h 15 15)) 15 16) := ICv I3 15 _
    refine sf_n (iv_in f6 rfl) ?_
    have f9 : iv 0 11 ((hs (hs h 39 (h 35 11).toNatClampNeg (h 15 14)) 40 (h 35 11).toNatClampNeg (h 15 15)) 15 17) := ICv I3 15 _
    refine sf_n (iv_in f6 rfl) ?_
    have I10 : IC z (hs (hs (hs (hs h 39 (h 35 11).toNatClampNeg (h 15 14)) 40 (h 35 11).toNatClampNeg (h 15 15)) 43 ((hs (hs h 39 (h 35 11).toNatClampNeg (h 15 14)) 40 (h 35 11).toNatClampNeg (h 15 15)) 35 11).toNatClampNeg ((hs (hs h 39 (h 35 11).toNatClampNeg (h 15 14)) 40 (h 35 11).toNatClampNeg (h 15 15)) 15 16)) 44 ((hs (hs h 39 (h 35 11).toNatClampNeg (h 15 14)) 40 (h 35 11).toNatClampNeg (h 15 15)) 35 11).toNatClampNeg ((hs (hs h 39 (h 35 11).toNatClampNeg (h 15 14)) 40 (h 35 11).toNatClampNeg (h 15 15)) 15 17)) := ICmt I3 (((hs (hs h 39 (h 35 11).toNatClampNeg (h 15 14)) 40 (h 35 11).toNatClampNeg (h 15 15)) 35 11).toNatClampNeg) f7 f9 I3.2.1.2.2.1
    exact ⟨trivial, I10⟩
  · have f11 : iv 0 2147483647 (h 15 15) := iv_ler (iv_any (h 15 15)) (iv_lit (lo := 0) (hi := 0) (x := 0) rfl) (nlt c4) rfl
    refine sf_if (fun c12 => ?_) (fun c12 => ?_)
    · have f13 : iv 12 2147483647 (h 15 15) := iv_ler f11 (iv_lit (lo := 12) (hi := 12) (x := 12) rfl) c12 rfl
      unfold PX10_noteEffects_s_68 FX10_noteEffects_s_68
      have f14 : iv 0 300 ((hs (hs h 39 (h 35 11).toNatClampNeg (h 15 14)) 40 (h 35 11).toNatClampNeg (h 15 15)) 35 11) := ICv I3 35 _
      have f15 : iv 0 4 ((hs (hs h 39 (h 35 11).toNatClampNeg (h 15 14)) 40 (h 35 11).toNatClampNeg (h 15 15)) 15 16) := ICv I3 15 _
      refine sf_n (iv_in f14 rfl) ?_
      have f17 : iv 0 11 ((hs (hs h 39 (h 35 11).toNatClampNeg (h 15 14)) 40 (h 35 11).toNatClampNeg (h 15 15)) 15 17) := ICv I3 15 _
      refine sf_n (iv_in f14 rfl) ?_
      have I18 : IC z (hs (hs (hs (hs h 39 (h 35 11).toNatClampNeg (h 15 14)) 40 (h 35 11).toNatClampNeg (h 15 15)) 43 ((hs (hs h 39 (h 35 11).toNatClampNeg (h 15 14)) 40 (h 35 11).toNatClampNeg (h 15 15)) 35 11).toNatClampNeg ((hs (hs h 39 (h 35 11).toNatClampNeg (h 15 14)) 40 (h 35 11).toNatClampNeg (h 15 15)) 15 16)) 44 ((hs (hs h 39 (h 35 11).toNatClampNeg (h 15 14)) 40 (h 35 11).toNatClampNeg (h 15 15)) 35 11).toNatClampNeg ((hs (hs h 39 (h 35 11).toNatClampNeg (h 15 14)) 40 (h 35 11).toNatClampNeg (h 15 15)) 15 17)) := ICmt I3 (((hs (hs h 39 (h 35 11).toNatClampNeg (h 15 14)) 40 (h 35 11).toNatClampNeg (h 15 15)) 35 11).toNatClampNeg) f15 f17 I3.2.1.2.2.1
      exact ⟨trivial, I18⟩
    · have f19 : iv 0 11 (h 15 15) := iv_ltl f11 (iv_lit (lo := 12) (hi := 12) (x := 12) rfl) (nle c12) rfl
      refine sf_n (iv_in f19 rfl) ?_
      have f20 : iv 0 3 (h 16 ((h 15 15).toNatClampNeg)) := ICv I 16 _
      refine sf_n (iv_in f1 rfl) ?_
      have I21 : IC z (hs (hs (hs h 39 (h 35 11).toNatClampNeg (h 15 14)) 40 (h 35 11).toNatClampNeg (h 15 15)) 41 (h 35 11).toNatClampNeg (h 16 ((h 15 15).toNatClampNeg))) := ICs I3 (k := 41) (i := (h 35 11).toNatClampNeg) (v := (h 16 ((h 15 15).toNatClampNeg))) (iv_any (h 16 ((h 15 15).toNatClampNeg))) rfl
      refine sf_n (iv_in f19 rfl) ?_
      refine sf_n (iv_in f1 rfl) ?_
      have I22 : IC z (hs (hs (hs (hs h 39 (h 35 11).toNatClampNeg (h 15 14)) 40 (h 35 11).toNatClampNeg (h 15 15)) 41 (h 35 11).toNatClampNeg (h 16 ((h 15 15).toNatClampNeg))) 42 (h 35 11).toNatClampNeg (h 17 ((h 15 15).toNatClampNeg))) := ICs I21 (k := 42) (i := (h 35 11).toNatClampNeg) (v := (h 17 ((h 15 15).toNatClampNeg))) (iv_any (h 17 ((h 15 15).toNatClampNeg))) rfl
      unfold PX10_noteEffects_s_68 FX10_noteEffects_s_68
      have f23 : iv 0 300 ((hs (hs (hs (hs h 39 (h 35 11).toNatClampNeg (h 15 14)) 40 (h 35 11).toNatClampNeg (h 15 15)) 41 (h 35 11).toNatClampNeg (h 16 ((h 15 15).toNatClampNeg))) 42 (h 35 11).toNatClampNeg (h 17 ((h 15 15).toNatClampNeg))) 35 11) := ICv I22 35 _
      have f24 : iv 0 4 ((hs (hs (hs (hs h 39 (h 35 11).toNatClampNeg (h 15 14)) 40 (h 35 11).toNatClampNeg (h 15 15)) 41 (h 35 11).toNatClampNeg (h 16 ((h 15 15).toNatClampNeg))) 42 (h 35 11).toNatClampNeg (h 17 ((h 15 15).toNatClampNeg))) 15 16) := ICv I22 15 _
      refine sf_n (iv_in f23 rfl) ?_
      have f26 : iv 0 11 ((hs (hs (hs (hs h 39 (h 35 11).toNatClampNeg (h 15 14)) 40 (h 35 11).toNatClampNeg (h 15 15)) 41 (h 35 11).toNatClampNeg (h 16 ((h 15 15).toNatClampNeg))) 42 (h 35 11).toNatClampNeg (h 17 ((h 15 15).toNatClampNeg))) 15 17) := ICv I22 15 _
      refine sf_n (iv_in f23 rfl) ?_
      have I27 : IC z (hs (hs (hs (hs (hs (hs h 39 (h 35 11).toNatClampNeg (h 15 14)) 40 (h 35 11).toNatClampNeg (h 15 15)) 41 (h 35 11).toNatClampNeg (h 16 ((h 15 15).toNatClampNeg))) 42 (h 35 11).toNatClampNeg (h 17 ((h 15 15).toNatClampNeg))) 43 ((hs (hs (hs (hs h 39 (h 35 11).toNatClampNeg (h 15 14)) 40 (h 35 11).toNatClampNeg (h 15 15)) 41 (h 35 11).toNatClampNeg (h 16 ((h 15 15).toNatClampNeg))) 42 (h 35 11).toNatClampNeg (h 17 ((h 15 15).toNatClampNeg))) 35 11).toNatClampNeg ((hs (hs (hs (hs h 39 (h 35 11).toNatClampNeg (h 15 14)) 40 (h 35 11).toNatClampNeg (h 15 15)) 41 (h 35 11).toNatClampNeg (h 16 ((h 15 15).toNatClampNeg))) 42 (h 35 11).toNatClampNeg (h 17 ((h 15 15).toNatClampNeg))) 15 16)) 44 ((hs (hs (hs (hs h 39 (h 35 11).toNatClampNeg (h 15 14)) 40 (h 35 11).toNatClampNeg (h 15 15)) 41 (h 35 11).toNatClampNeg (h 16 ((h 15 15).toNatClampNeg))) 42 (h 35 11).toNatClampNeg (h 17 ((h 15 15).toNatClampNeg))) 35 11).toNatClampNeg ((hs (hs (hs (hs h 39 (h 35 11).toNatClampNeg (h 15 14)) 40 (h 35 11).toNatClampNeg (h 15 15)) 41 (h 35 11).toNatClampNeg (h 16 ((h 15 15).toNatClampNeg))) 42 (h 35 11).toNatClampNeg (h 17 ((h 15 15).toNatClampNeg))) 15 17)) := ICmt I22 (((hs (hs (hs (hs h 39 (h 35 11).toNatClampNeg (h 15 14)) 40 (h 35 11).toNatClampNeg (h 15 15)) 41 (h 35 11).toNatClampNeg (h 16 ((h 15 15).toNatClampNeg))) 42 (h 35 11).toNatClampNeg (h 17 ((h 15 15).toNatClampNeg))) 35 11).toNatClampNeg) f24 f26 I22.2.1.2.2.1
      exact ⟨trivial, I27⟩

-- X5_has_t
set_option maxRecDepth 100000 in
set_option maxHeartbeats 4000000 in
theorem SX5_has_t {z : zT} (a0 : Int32) (a1 : Int32) (h : ph_H) (I : IC z h) (f_a0 : iv 0 3 a0) : PX5_has_t a0 a1 h ∧ Qc 0 1 (fun r => ¬ r = 0 → iv 0 23 a1) (FX5_has_t a0 a1 h) := by
  unfold PX5_has_t FX5_has_t
  refine sf_if (fun c1 => ?_) (fun c1 => ?_)
  · have f2 : iv (-2147483648) (-1) a1 := iv_ltl (iv_any a1) (iv_lit (lo := 0) (hi := 0) (x := 0) rfl) c1 rfl
    exact ⟨trivial, (iv_w (c := 0) (d := 1) (iv_lit (lo := 0) (hi := 0) (x := 0) rfl) rfl), fun z => absurd rfl z⟩
  · have f3 : iv 0 2147483647 a1 := iv_ler (iv_any a1) (iv_lit (lo := 0) (hi := 0) (x := 0) rfl) (nlt c1) rfl
    refine sf_if (fun c4 => ?_) (fun c4 => ?_)
    · have f5 : iv 24 2147483647 a1 := iv_ler f3 (iv_lit (lo := 24) (hi := 24) (x := 24) rfl) c4 rfl
      exact ⟨trivial, (iv_w (c := 0) (d := 1) (iv_lit (lo := 0) (hi := 0) (x := 0) rfl) rfl), fun z => absurd rfl z⟩
    · have f6 : iv 0 23 a1 := iv_ltl f3 (iv_lit (lo := 24) (hi := 24) (x := 24) rfl) (nle c4) rfl
      refine sf_n (iv_in f_a0 rfl) ?_
      have f7 : iv 0 24 (h 9 (a0.toNatClampNeg)) := ICv I 9 _
      refine sf_if (fun c8 => ?_) (fun c8 => ?_)
      · have f9 : iv 0 23 (h 9 (a0.toNatClampNeg)) := iv_lel f7 f6 c8 rfl
        exact ⟨trivial, (iv_w (c := 0) (d := 1) (iv_lit (lo := 0) (hi := 0) (x := 0) rfl) rfl), fun z => absurd rfl z⟩
      · have f10 : iv 1 24 (h 9 (a0.toNatClampNeg)) := iv_ltr f7 f6 (nle c8) rfl
        exact ⟨trivial, (iv_w (c := 0) (d := 1) (iv_lit (lo := 1) (hi := 1) (x := 1) rfl) rfl), fun _ => f6⟩

-- X3_hasEnded_s
set_option maxRecDepth 100000 in
set_option maxHeartbeats 4000000 in
theorem SX3_hasEnded_s {z : zT} (a0 : Int32) (h : ph_H) (I : IC z h) (f_a0 : iv 0 3 a0) : PX3_hasEnded_s a0 h ∧ Qc 0 1 (fun r => r = 0 → iv 0 23 (h 18 (a0.toNatClampNeg))) (FX3_hasEnded_s a0 h) := by
  unfold PX3_hasEnded_s FX3_hasEnded_s
  refine sf_n (iv_in f_a0 rfl) ?_
  have s1 := SX5_has_t (z := z) a0 (h 18 (a0.toNatClampNeg)) h I f_a0
  refine sf_n s1.1 ?_
  refine sf_if (fun c2 => ?_) (fun c2 => ?_)
  · have f3 : iv 0 0 (FX5_has_t a0 (h 18 (a0.toNatClampNeg)) h) := iv_eql s1.2.1 (iv_lit (lo := 0) (hi := 0) (x := 0) rfl) c2 rfl
    exact ⟨trivial, (iv_w (c := 0) (d := 1) (iv_lit (lo := 1) (hi := 1) (x := 1) rfl) rfl), fun z => absurd z (by decide)⟩
  · have f4 : iv 0 23 (h 18 (a0.toNatClampNeg)) := iv_and (iv_any _) (s1.2.2 c2) rfl
    have f5 : iv 1 1 (FX5_has_t a0 (h 18 (a0.toNatClampNeg)) h) := iv_nel s1.2.1 c2 rfl
    exact ⟨trivial, (iv_w (c := 0) (d := 1) (iv_lit (lo := 0) (hi := 0) (x := 0) rfl) rfl), fun _ => f4⟩

-- X3_lockIn_s
set_option maxRecDepth 100000 in
set_option maxHeartbeats 4000000 in
theorem SX3_lockIn_s {z : zT} (a0 : Int32) (h : ph_H) (I : IC z h) (f_a0 : iv 0 27 a0) : PX3_lockIn_s a0 h ∧ iv (-1) 11 (FX3_lockIn_s a0 h) := by
  unfold PX3_lockIn_s FX3_lockIn_s
  refine sf_n (iv_in f_a0 rfl) ?_
  have f1 : iv 0 3 (h 16 (a0.toNatClampNeg)) := ICv I 16 _
  refine sf_if (fun c2 => ?_) (fun c2 => ?_)
  · have f3 : iv 2 2 (h 16 (a0.toNatClampNeg)) := iv_eql f1 (iv_lit (lo := 2) (hi := 2) (x := 2) rfl) c2 rfl
    have f4 : iv 0 11 (h 17 (a0.toNatClampNeg)) := KVn_s I f3 rfl
    unfold PX3_lockIn_s_20 FX3_lockIn_s_20
    refine sf_n (iv_in f_a0 rfl) ?_
    exact ⟨trivial, (iv_w (c := (-1)) (d := 11) f4 rfl)⟩
  · refine sf_n (iv_in f_a0 rfl) ?_
    refine sf_if (fun c5 => ?_) (fun c5 => ?_)
    · have f6 : iv 3 3 (h 16 (a0.toNatClampNeg)) := iv_eql f1 (iv_lit (lo := 3) (hi := 3) (x := 3) rfl) c5 rfl
      have f7 : iv 0 11 (h 17 (a0.toNatClampNeg)) := KVn_s I f6 rfl
      unfold PX3_lockIn_s_20 FX3_lockIn_s_20
      refine sf_n (iv_in f_a0 rfl) ?_
      exact ⟨trivial, (iv_w (c := (-1)) (d := 11) f7 rfl)⟩
    · have f8 : iv 0 2 (h 16 (a0.toNatClampNeg)) := iv_nel f1 c5 rfl
      exact ⟨trivial, (iv_w (c := (-1)) (d := 11) (iv_lit (lo := (-1)) (hi := (-1)) (x := (-1)) rfl) rfl)⟩

-- X3_slotOf
set_option maxRecDepth 100000 in
set_option maxHeartbeats 4000000 in
theorem SX3_slotOf  (a0 : Int32) (a1 : Int32) (f_a0 : iv 0 3 a0) : PX3_slotOf a0 a1 ∧ iv 12 27 (FX3_slotOf a0 a1) := by
  unfold PX3_slotOf FX3_slotOf
  have f1 : iv 0 12 (a0 * 4) := iv_mulr (c := 4) rfl f_a0 rfl
  have f2 : iv 12 24 (12 + (a0 * 4)) := iv_add (iv_lit (lo := 12) (hi := 12) (x := 12) rfl) f1 rfl
  refine sf_n (fmod_p (m := 4) (by decide) (by decide)) ?_
  have f3 : iv 0 3 (FJ9_floorMod_7cf53 a1 4) := fmod_iv (m := 4) rfl
  have f4 : iv 12 27 ((12 + (a0 * 4)) + (FJ9_floorMod_7cf53 a1 4)) := iv_add f2 f3 rfl
  exact ⟨trivial, f4⟩

-- X5_firstPart_t
set_option maxRecDepth 100000 in
set_option maxHeartbeats 4000000 in
theorem SX5_firstPart_t {z : zT} (a0 : Int32) (a1 : Int32) (h : ph_H) (I : IC z h) (f_a0 : iv 0 3 a0) (f_a1 : iv 0 23 a1) : PX5_firstPart_t a0 a1 h ∧ iv 0 380 (FX5_firstPart_t a0 a1 h) := by
  unfold PX5_firstPart_t FX5_firstPart_t
  have f1 : iv 0 72 (a0 * 24) := iv_mulr (c := 24) rfl f_a0 rfl
  have f2 : iv 0 95 ((a0 * 24) + a1) := iv_add f1 f_a1 rfl
  have f3 : iv 0 380 (((a0 * 24) + a1) * 4) := iv_mulr (c := 4) rfl f2 rfl
  exact ⟨trivial, f3⟩

-- X3_canGo_s
set_option maxRecDepth 100000 in
set_option maxHeartbeats 4000000 in
theorem SX3_canGo_s {z : zT} (a0 : Int32) (h : ph_H) (I : IC z h) (f_a0 : iv 0 3 a0) : PX3_canGo_s a0 h ∧ Qc 0 1 (fun r => ¬ r = 0 → iv 0 23 (h 18 (a0.toNatClampNeg))) (FX3_canGo_s a0 h) := by
  unfold PX3_canGo_s FX3_canGo_s
  refine sf_n (iv_in f_a0 rfl) ?_
  refine sf_if (fun c1 => ?_) (fun c1 => ?_)
  · have f2 : iv 0 0 (h 19 (a0.toNatClampNeg)) := iv_eql (iv_any (h 19 (a0.toNatClampNeg))) (iv_lit (lo := 0) (hi := 0) (x := 0) rfl) c1 rfl
    exact ⟨trivial, (iv_w (c := 0) (d := 1) (iv_lit (lo := 0) (hi := 0) (x := 0) rfl) rfl), fun z => absurd rfl z⟩
  · refine sf_n (iv_in f_a0 rfl) ?_
    refine sf_if (fun c3 => ?_) (fun c3 => ?_)
    · have f4 : iv 2 2 (h 19 (a0.toNatClampNeg)) := iv_eql (iv_any (h 19 (a0.toNatClampNeg))) (iv_lit (lo := 2) (hi := 2) (x := 2) rfl) c3 rfl
      exact ⟨trivial, (iv_w (c := 0) (d := 1) (iv_lit (lo := 0) (hi := 0) (x := 0) rfl) rfl), fun z => absurd rfl z⟩
    · have s5 := SX3_hasEnded_s (z := z) a0 h I f_a0
      refine sf_n s5.1 ?_
      refine sf_if (fun c6 => ?_) (fun c6 => ?_)
      · have f7 : iv 0 23 (h 18 (a0.toNatClampNeg)) := iv_and (iv_any _) (s5.2.2 c6) rfl
        have f8 : iv 0 0 (FX3_hasEnded_s a0 h) := iv_eql s5.2.1 (iv_lit (lo := 0) (hi := 0) (x := 0) rfl) c6 rfl
        refine sf_n (iv_in f_a0 rfl) ?_
        refine sf_if (fun c9 => ?_) (fun c9 => ?_)
        · have f10 : iv 3 3 (h 19 (a0.toNatClampNeg)) := iv_eql (iv_any (h 19 (a0.toNatClampNeg))) (iv_lit (lo := 3) (hi := 3) (x := 3) rfl) c9 rfl
          refine sf_n (iv_in f_a0 rfl) ?_
          have f11 : iv 0 11 (h 20 (a0.toNatClampNeg)) := ICv I 20 _
          refine sf_n (iv_in f11 rfl) ?_
          refine sf_if (fun c12 => ?_) (fun c12 => ?_)
          · have f13 : iv (-2) (-2) (h 23 ((h 20 (a0.toNatClampNeg)).toNatClampNeg)) := iv_eql (iv_any (h 23 ((h 20 (a0.toNatClampNeg)).toNatClampNeg))) (iv_lit (lo := (-2)) (hi := (-2)) (x := (-2)) rfl) c12 rfl
            exact ⟨trivial, (iv_w (c := 0) (d := 1) (iv_lit (lo := 1) (hi := 1) (x := 1) rfl) rfl), fun _ => f7⟩
          · exact ⟨trivial, (iv_w (c := 0) (d := 1) (iv_lit (lo := 0) (hi := 0) (x := 0) rfl) rfl), fun z => absurd rfl z⟩
        · refine sf_n (iv_in f_a0 rfl) ?_
          have s14 := SX5_firstPart_t (z := z) a0 (h 18 (a0.toNatClampNeg)) h I f_a0 f7
          refine sf_n s14.1 ?_
          refine sf_n (iv_in s14.2 rfl) ?_
          refine sf_if (fun c15 => ?_) (fun c15 => ?_)
          · have f16 : iv 12 12 (h 10 ((FX5_firstPart_t a0 (h 18 (a0.toNatClampNeg)) h).toNatClampNeg)) := iv_eql (iv_any (h 10 ((FX5_firstPart_t a0 (h 18 (a0.toNatClampNeg)) h).toNatClampNeg))) (iv_lit (lo := 12) (hi := 12) (x := 12) rfl) c15 rfl
            have f17 : iv 1 381 ((FX5_firstPart_t a0 (h 18 (a0.toNatClampNeg)) h) + 1) := iv_add s14.2 (iv_lit (lo := 1) (hi := 1) (x := 1) rfl) rfl
            refine sf_n (iv_in f17 rfl) ?_
            have s18 := SX3_slotOf a0 (h 10 (((FX5_firstPart_t a0 (h 18 (a0.toNatClampNeg)) h) + 1).toNatClampNeg)) f_a0
            refine sf_n s18.1 ?_
            have s19 := SX3_lockIn_s (z := z) (FX3_slotOf a0 (h 10 (((FX5_firstPart_t a0 (h 18 (a0.toNatClampNeg)) h) + 1).toNatClampNeg))) h I (iv_w (c := 0) (d := 27) s18.2 rfl)
            refine sf_n s19.1 ?_
            refine sf_if (fun c20 => ?_) (fun c20 => ?_)
            · have f21 : iv (-1) (-1) (FX3_lockIn_s (FX3_slotOf a0 (h 10 (((FX5_firstPart_t a0 (h 18 (a0.toNatClampNeg)) h) + 1).toNatClampNeg))) h) := iv_ltl s19.2 (iv_lit (lo := 0) (hi := 0) (x := 0) rfl) c20 rfl
              unfold PX3_canGo_s_137 FX3_canGo_s_137
              exact ⟨trivial, (iv_w (c := 0) (d := 1) (iv_lit (lo := 1) (hi := 1) (x := 1) rfl) rfl), fun _ => f7⟩
            · have f22 : iv 0 11 (FX3_lockIn_s (FX3_slotOf a0 (h 10 (((FX5_firstPart_t a0 (h 18 (a0.toNatClampNeg)) h) + 1).toNatClampNeg))) h) := iv_ler s19.2 (iv_lit (lo := 0) (hi := 0) (x := 0) rfl) (nlt c20) rfl
              refine sf_n (iv_in f22 rfl) ?_
              refine sf_if (fun c23 => ?_) (fun c23 => ?_)
              · have f24 : iv (-2) (-2) (h 23 ((FX3_lockIn_s (FX3_slotOf a0 (h 10 (((FX5_firstPart_t a0 (h 18 (a0.toNatClampNeg)) h) + 1).toNatClampNeg))) h).toNatClampNeg)) := iv_eql (iv_any (h 23 ((FX3_lockIn_s (FX3_slotOf a0 (h 10 (((FX5_firstPart_t a0 (h 18 (a0.toNatClampNeg)) h) + 1).toNatClampNeg))) h).toNatClampNeg))) (iv_lit (lo := (-2)) (hi := (-2)) (x := (-2)) rfl) c23 rfl
                unfold PX3_canGo_s_137 FX3_canGo_s_137
                exact ⟨trivial, (iv_w (c := 0) (d := 1) (iv_lit (lo := 1) (hi := 1) (x := 1) rfl) rfl), fun _ => f7⟩
              · refine sf_n (iv_in f22 rfl) ?_
                refine sf_if (fun c25 => ?_) (fun c25 => ?_)
                · have f26 : iv 0 3 (h 23 ((FX3_lockIn_s (FX3_slotOf a0 (h 10 (((FX5_firstPart_t a0 (h 18 (a0.toNatClampNeg)) h) + 1).toNatClampNeg))) h).toNatClampNeg)) := iv_eql (iv_any (h 23 ((FX3_lockIn_s (FX3_slotOf a0 (h 10 (((FX5_firstPart_t a0 (h 18 (a0.toNatClampNeg)) h) + 1).toNatClampNeg))) h).toNatClampNeg))) f_a0 c25 rfl
                  unfold PX3_canGo_s_137 FX3_canGo_s_137
                  exact ⟨trivial, (iv_w (c := 0) (d := 1) (iv_lit (lo := 1) (hi := 1) (x := 1) rfl) rfl), fun _ => f7⟩
                · exact ⟨trivial, (iv_w (c := 0) (d := 1) (iv_lit (lo := 0) (hi := 0) (x := 0) rfl) rfl), fun z => absurd rfl z⟩
          · exact ⟨trivial, (iv_w (c := 0) (d := 1) (iv_lit (lo := 1) (hi := 1) (x := 1) rfl) rfl), fun _ => f7⟩
      · have f27 : iv 1 1 (FX3_hasEnded_s a0 h) := iv_nel s5.2.1 c6 rfl
        exact ⟨trivial, (iv_w (c := 0) (d := 1) (iv_lit (lo := 0) (hi := 0) (x := 0) rfl) rfl), fun z => absurd rfl z⟩

-- X3_hold_s
set_option maxRecDepth 100000 in
set_option maxHeartbeats 4000000 in
theorem SX3_hold_s {z : zT} (a0 : Int32) (a1 : Int32) (a2 : Int32) (h : ph_H) (I : IC z h) (f_a0 : iv 0 27 a0) (f_a1 : iv 0 3 a1) (q : a1 = 0 ∨ iv 0 11 a2) : PX3_hold_s a0 a1 a2 h ∧ QC z 0 0 (FX3_hold_s a0 a1 a2 h) := by
  unfold PX3_hold_s FX3_hold_s
  refine sf_n (iv_in f_a0 rfl) ?_
  refine sf_n (iv_in f_a0 rfl) ?_
  have I2 : IC z (hs (hs h 16 a0.toNatClampNeg a1) 17 a0.toNatClampNeg a2) := ICkv_s I a0.toNatClampNeg f_a1 q
  exact ⟨trivial, QC_mk (iv_lit (lo := 0) (hi := 0) (x := 0) rfl) I2⟩

-- X3_getCell_s
set_option maxRecDepth 100000 in
set_option maxHeartbeats 4000000 in
theorem SX3_getCell_s {z : zT} (a0 : Int32) (a1 : Int32) (h : ph_H) (I : IC z h) (f_a0 : iv 0 27 a0) (f_a1 : iv 0 11 a1) : PX3_getCell_s a0 a1 h ∧ QC z 0 0 (FX3_getCell_s a0 a1 h) := by
  unfold PX3_getCell_s FX3_getCell_s
  have I1 : IC z (hs h 15 14 a1) := ICs I (k := 15) (i := 14) (v := a1) (iv_any a1) rfl
  refine sf_n (iv_in f_a1 rfl) ?_
  have f2 : iv 0 3 (h 16 (a1.toNatClampNeg)) := ICv I 16 _
  refine sf_n (iv_in f_a1 rfl) ?_
  have s3 := SX3_hold_s (z := z) a0 (h 16 (a1.toNatClampNeg)) (h 17 (a1.toNatClampNeg)) (hs h 15 14 a1) I1 f_a0 f2 (I.2.1.1 _)
  refine sf_n s3.1 ?_
  exact ⟨trivial, QC_mk s3.2.1 s3.2.2⟩

-- X3_goTo_s
set_option maxRecDepth 100000 in
set_option maxHeartbeats 4000000 in
theorem SX3_goTo_s {z : zT} (a0 : Int32) (h : ph_H) (I : IC z h) : PX3_goTo_s a0 h ∧ QC z 0 0 (FX3_goTo_s a0 h) := by
  unfold PX3_goTo_s FX3_goTo_s
  have I1 : IC z (hs h 15 13 a0) := ICs I (k := 15) (i := 13) (v := a0) (iv_any a0) rfl
  exact ⟨trivial, QC_mk (iv_lit (lo := 0) (hi := 0) (x := 0) rfl) I1⟩

-- X3_goUnless_s
set_option maxRecDepth 100000 in
set_option maxHeartbeats 4000000 in
theorem SX3_goUnless_s {z : zT} (a0 : Int32) (a1 : Int32) (h : ph_H) (I : IC z h) (f_a0 : iv 0 27 a0) : PX3_goUnless_s a0 a1 h ∧ QC z 0 1 (FX3_goUnless_s a0 a1 h) := by
  unfold PX3_goUnless_s FX3_goUnless_s
  refine sf_n (iv_in f_a0 rfl) ?_
  have f1 : iv 0 3 (h 16 (a0.toNatClampNeg)) := ICv I 16 _
  refine sf_if (fun c2 => ?_) (fun c2 => ?_)
  · have f3 : iv 0 0 (h 16 (a0.toNatClampNeg)) := iv_eql f1 (iv_lit (lo := 0) (hi := 0) (x := 0) rfl) c2 rfl
    refine sf_n (iv_in f_a0 rfl) ?_
    refine sf_if (fun c4 => ?_) (fun c4 => ?_)
    · have f5 : iv 0 0 (h 17 (a0.toNatClampNeg)) := iv_eql (iv_any (h 17 (a0.toNatClampNeg))) (iv_lit (lo := 0) (hi := 0) (x := 0) rfl) c4 rfl
      have s6 := SX3_goTo_s (z := z) a1 h I
      refine sf_n s6.1 ?_
      unfold PX3_goUnless_s_25 FX3_goUnless_s_25
      exact ⟨trivial, QC_mk (iv_w (c := 0) (d := 1) s6.2.1 rfl) s6.2.2⟩
    · exact ⟨trivial, QC_mk (iv_w (c := 0) (d := 1) (iv_lit (lo := 0) (hi := 0) (x := 0) rfl) rfl) I⟩
  · have f7 : iv 1 3 (h 16 (a0.toNatClampNeg)) := iv_nel f1 c2 rfl
    have f8 : iv 0 11 (h 17 (a0.toNatClampNeg)) := KVn_s I f7 rfl
    exact ⟨trivial, QC_mk (iv_w (c := 0) (d := 1) (iv_lit (lo := 1) (hi := 1) (x := 1) rfl) rfl) I⟩

-- X3_free_s
set_option maxRecDepth 100000 in
set_option maxHeartbeats 4000000 in
theorem SX3_free_s {z : zT} (a0 : Int32) (h : ph_H) (I : IC z h) (f_a0 : iv 0 11 a0) : PX3_free_s a0 h ∧ QC z 0 0 (FX3_free_s a0 h) := by
  unfold PX3_free_s FX3_free_s
  refine sf_n (iv_in f_a0 rfl) ?_
  have I1 : IC z (hs h 23 a0.toNatClampNeg (-2)) := ICs I (k := 23) (i := a0.toNatClampNeg) (v := (-2)) (iv_any (-2)) rfl
  have I2 : IC z (hs (hs h 23 a0.toNatClampNeg (-2)) 15 16 2) := ICm1 I1 (iv_w (c := 0) (d := 4) (iv_lit (lo := 2) (hi := 2) (x := 2) rfl) rfl) (by decide)
  have I3 : IC z (hs (hs (hs h 23 a0.toNatClampNeg (-2)) 15 16 2) 15 17 a0) := ICmm I1 (iv_w (c := 0) (d := 4) (iv_lit (lo := 2) (hi := 2) (x := 2) rfl) rfl) f_a0 (fun e => absurd e (by decide))
  exact ⟨trivial, QC_mk (iv_lit (lo := 0) (hi := 0) (x := 0) rfl) I3⟩

-- X3_leaveLock_s
set_option maxRecDepth 100000 in
set_option maxHeartbeats 4000000 in
theorem SX3_leaveLock_s {z : zT} (a0 : Int32) (a1 : Int32) (h : ph_H) (I : IC z h) (f_a1 : iv 0 27 a1) : PX3_leaveLock_s a0 a1 h ∧ QC z 0 6 (FX3_leaveLock_s a0 a1 h) := by
  unfold PX3_leaveLock_s FX3_leaveLock_s
  have s1 := SX3_lockIn_s (z := z) a1 h I f_a1
  refine sf_n s1.1 ?_
  refine sf_if (fun c2 => ?_) (fun c2 => ?_)
  · have f3 : iv 0 11 (FX3_lockIn_s a1 h) := iv_ler s1.2 (iv_lit (lo := 0) (hi := 0) (x := 0) rfl) c2 rfl
    refine sf_n (iv_in f3 rfl) ?_
    refine sf_if (fun c4 => ?_) (fun c4 => ?_)
    · have s5 := SX3_free_s (z := z) (FX3_lockIn_s a1 h) h I f3
      refine sf_n s5.1 ?_
      exact ⟨trivial, QC_mk (iv_w (c := 0) (d := 6) s5.2.1 rfl) s5.2.2⟩
    · exact ⟨trivial, QC_mk (iv_w (c := 0) (d := 6) (iv_lit (lo := 6) (hi := 6) (x := 6) rfl) rfl) I⟩
  · have f6 : iv (-1) (-1) (FX3_lockIn_s a1 h) := iv_ltl s1.2 (iv_lit (lo := 0) (hi := 0) (x := 0) rfl) (nle c2) rfl
    exact ⟨trivial, QC_mk (iv_w (c := 0) (d := 6) (iv_lit (lo := 1) (hi := 1) (x := 1) rfl) rfl) I⟩

-- X3_gateIn_s
set_option maxRecDepth 100000 in
set_option maxHeartbeats 4000000 in
theorem SX3_gateIn_s {z : zT} (a0 : Int32) (h : ph_H) (I : IC z h) (f_a0 : iv 0 27 a0) : PX3_gateIn_s a0 h ∧ iv (-1) 11 (FX3_gateIn_s a0 h) := by
  unfold PX3_gateIn_s FX3_gateIn_s
  refine sf_n (iv_in f_a0 rfl) ?_
  have f1 : iv 0 3 (h 16 (a0.toNatClampNeg)) := ICv I 16 _
  refine sf_if (fun c2 => ?_) (fun c2 => ?_)
  · have f3 : iv 3 3 (h 16 (a0.toNatClampNeg)) := iv_eql f1 (iv_lit (lo := 3) (hi := 3) (x := 3) rfl) c2 rfl
    have f4 : iv 0 11 (h 17 (a0.toNatClampNeg)) := KVn_s I f3 rfl
    refine sf_n (iv_in f_a0 rfl) ?_
    exact ⟨trivial, (iv_w (c := (-1)) (d := 11) f4 rfl)⟩
  · have f5 : iv 0 2 (h 16 (a0.toNatClampNeg)) := iv_nel f1 c2 rfl
    exact ⟨trivial, (iv_w (c := (-1)) (d := 11) (iv_lit (lo := (-1)) (hi := (-1)) (x := (-1)) rfl) rfl)⟩

-- X3_lieDown_s
set_option maxRecDepth 100000 in
set_option maxHeartbeats 4000000 in
theorem SX3_lieDown_s {z : zT} (a0 : Int32) (a1 : Int32) (h : ph_H) (I : IC z h) (f_a0 : iv 0 3 a0) (f_a1 : iv 0 27 a1) : PX3_lieDown_s a0 a1 h ∧ QC z 0 6 (FX3_lieDown_s a0 a1 h) := by
  unfold PX3_lieDown_s FX3_lieDown_s
  have s1 := SX3_gateIn_s (z := z) a1 h I f_a1
  refine sf_n s1.1 ?_
  refine sf_if (fun c2 => ?_) (fun c2 => ?_)
  · have f3 : iv 0 11 (FX3_gateIn_s a1 h) := iv_ler s1.2 (iv_lit (lo := 0) (hi := 0) (x := 0) rfl) c2 rfl
    refine sf_n (iv_in f3 rfl) ?_
    refine sf_if (fun c4 => ?_) (fun c4 => ?_)
    · have f5 : iv 0 3 (h 23 ((FX3_gateIn_s a1 h).toNatClampNeg)) := iv_eql (iv_any (h 23 ((FX3_gateIn_s a1 h).toNatClampNeg))) f_a0 c4 rfl
      refine sf_n (iv_in f_a0 rfl) ?_
      have I6 : IC z (hs h 19 a0.toNatClampNeg 2) := ICs I (k := 19) (i := a0.toNatClampNeg) (v := 2) (iv_any 2) rfl
      refine sf_n (iv_in f_a0 rfl) ?_
      have I7 : IC z (hs (hs h 19 a0.toNatClampNeg 2) 20 a0.toNatClampNeg (FX3_gateIn_s a1 h)) := ICs I6 (k := 20) (i := a0.toNatClampNeg) (v := (FX3_gateIn_s a1 h)) f3 rfl
      refine sf_n (iv_in f_a0 rfl) ?_
      have I8 : IC z (hs (hs (hs h 19 a0.toNatClampNeg 2) 20 a0.toNatClampNeg (FX3_gateIn_s a1 h)) 15 13 (h 18 (a0.toNatClampNeg))) := ICs I7 (k := 15) (i := 13) (v := (h 18 (a0.toNatClampNeg))) (iv_any (h 18 (a0.toNatClampNeg))) rfl
      have s9 := SX3_free_s (z := z) (FX3_gateIn_s a1 h) (hs (hs (hs h 19 a0.toNatClampNeg 2) 20 a0.toNatClampNeg (FX3_gateIn_s a1 h)) 15 13 (h 18 (a0.toNatClampNeg))) I8 f3
      refine sf_n s9.1 ?_
      exact ⟨trivial, QC_mk (iv_w (c := 0) (d := 6) s9.2.1 rfl) s9.2.2⟩
    · exact ⟨trivial, QC_mk (iv_w (c := 0) (d := 6) (iv_lit (lo := 6) (hi := 6) (x := 6) rfl) rfl) I⟩
  · have f10 : iv (-1) (-1) (FX3_gateIn_s a1 h) := iv_ltl s1.2 (iv_lit (lo := 0) (hi := 0) (x := 0) rfl) (nle c2) rfl
    exact ⟨trivial, QC_mk (iv_w (c := 0) (d := 6) (iv_lit (lo := 1) (hi := 1) (x := 1) rfl) rfl) I⟩

-- X3_makeThing_s
set_option maxRecDepth 100000 in
set_option maxHeartbeats 4000000 in
theorem SX3_makeThing_s {z : zT} (a0 : Int32) (a1 : Int32) (a2 : Int32) (h : ph_H) (I : IC z h) (f_a0 : iv 0 27 a0) (f_a1 : iv 0 3 a1) (f_a2 : iv 0 16 a2) (g_15_10 : iv 0 11 (h 15 10)) : PX3_makeThing_s a0 a1 a2 h ∧ QC z 0 0 (FX3_makeThing_s a0 a1 a2 h) := by
  unfold PX3_makeThing_s FX3_makeThing_s
  have f1 : iv 1 12 ((h 15 10) + 1) := iv_add g_15_10 (iv_lit (lo := 1) (hi := 1) (x := 1) rfl) rfl
  have I2 : IC z (hs h 15 10 ((h 15 10) + 1)) := ICs I (k := 15) (i := 10) (v := ((h 15 10) + 1)) (iv_w (c := 0) (d := 12) f1 rfl) rfl
  refine sf_n (iv_in g_15_10 rfl) ?_
  have I3 : IC z (hs (hs h 15 10 ((h 15 10) + 1)) 21 (h 15 10).toNatClampNeg a1) := ICs I2 (k := 21) (i := (h 15 10).toNatClampNeg) (v := a1) (iv_any a1) rfl
  refine sf_n (iv_in g_15_10 rfl) ?_
  have I4 : IC z (hs (hs (hs h 15 10 ((h 15 10) + 1)) 21 (h 15 10).toNatClampNeg a1) 22 (h 15 10).toNatClampNeg a2) := ICs I3 (k := 22) (i := (h 15 10).toNatClampNeg) (v := a2) f_a2 rfl
  refine sf_n (iv_in g_15_10 rfl) ?_
  have I5 : IC z (hs (hs (hs (hs h 15 10 ((h 15 10) + 1)) 21 (h 15 10).toNatClampNeg a1) 22 (h 15 10).toNatClampNeg a2) 23 (h 15 10).toNatClampNeg (-2)) := ICs I4 (k := 23) (i := (h 15 10).toNatClampNeg) (v := (-2)) (iv_any (-2)) rfl
  refine sf_n (iv_in f_a0 rfl) ?_
  refine sf_n (iv_in f_a0 rfl) ?_
  have I7 : IC z (hs (hs (hs (hs (hs (hs h 15 10 ((h 15 10) + 1)) 21 (h 15 10).toNatClampNeg a1) 22 (h 15 10).toNatClampNeg a2) 23 (h 15 10).toNatClampNeg (-2)) 16 a0.toNatClampNeg a1) 17 a0.toNatClampNeg (h 15 10)) := ICkv_s I5 a0.toNatClampNeg f_a1 (Or.inr g_15_10)
  exact ⟨trivial, QC_mk (iv_lit (lo := 0) (hi := 0) (x := 0) rfl) I7⟩

-- X3_makeLock_s
set_option maxRecDepth 100000 in
set_option maxHeartbeats 4000000 in
theorem SX3_makeLock_s {z : zT} (a0 : Int32) (a1 : Int32) (h : ph_H) (I : IC z h) (f_a0 : iv 0 27 a0) (f_a1 : iv 0 1 a1) : PX3_makeLock_s a0 a1 h ∧ QC z 0 3 (FX3_makeLock_s a0 a1 h) := by
  unfold PX3_makeLock_s FX3_makeLock_s
  have f1 : iv 0 12 (h 15 10) := ICv I 15 _
  refine sf_if (fun c2 => ?_) (fun c2 => ?_)
  · have f3 : iv 0 11 (h 15 10) := iv_ltl f1 (iv_lit (lo := 12) (hi := 12) (x := 12) rfl) c2 rfl
    refine sf_if (fun c4 => ?_) (fun c4 => ?_)
    · have f5 : iv 0 0 a1 := iv_eql f_a1 (iv_lit (lo := 0) (hi := 0) (x := 0) rfl) c4 rfl
      unfold PX3_makeLock_s_22 FX3_makeLock_s_22
      have s6 := SX3_makeThing_s (z := z) a0 2 0 h I f_a0 (iv_w (c := 0) (d := 3) (iv_lit (lo := 2) (hi := 2) (x := 2) rfl) rfl) (iv_w (c := 0) (d := 16) (iv_lit (lo := 0) (hi := 0) (x := 0) rfl) rfl) f3
      refine sf_n s6.1 ?_
      exact ⟨trivial, QC_mk (iv_w (c := 0) (d := 3) s6.2.1 rfl) s6.2.2⟩
    · have f7 : iv 1 1 a1 := iv_nel f_a1 c4 rfl
      unfold PX3_makeLock_s_22 FX3_makeLock_s_22
      have s8 := SX3_makeThing_s (z := z) a0 3 0 h I f_a0 (iv_w (c := 0) (d := 3) (iv_lit (lo := 3) (hi := 3) (x := 3) rfl) rfl) (iv_w (c := 0) (d := 16) (iv_lit (lo := 0) (hi := 0) (x := 0) rfl) rfl) f3
      refine sf_n s8.1 ?_
      exact ⟨trivial, QC_mk (iv_w (c := 0) (d := 3) s8.2.1 rfl) s8.2.2⟩
  · have f9 : iv 12 12 (h 15 10) := iv_ler f1 (iv_lit (lo := 12) (hi := 12) (x := 12) rfl) (nlt c2) rfl
    exact ⟨trivial, QC_mk (iv_w (c := 0) (d := 3) (iv_lit (lo := 3) (hi := 3) (x := 3) rfl) rfl) I⟩

-- X3_makeRow_s
set_option maxRecDepth 100000 in
set_option maxHeartbeats 4000000 in
theorem SX3_makeRow_s_44 {z : zT} : ∀ (q : Nat) (x1 : Int32) (x3 : Int32) (x4 : Int32) (h : ph_H), IC z h → iv 0 27 x1 → iv 0 16 x3 → iv 0 16 x4 → iv 0 11 (h 15 10) → 16 - (x4).toInt < ((q : Nat) : Int) → PX3_makeRow_s_44  q x1 x3 x4 h ∧ QC z 0 3 (FX3_makeRow_s_44  q x1 x3 x4 h) := by
  intro q
  induction q with
  | zero =>
    intro x1 x3 x4 h I f_x1 f_x3 f_x4 g_15_10 mq
    exact mu_zu f_x4 mq rfl
  | succ q ih =>
    intro x1 x3 x4 h I f_x1 f_x3 f_x4 g_15_10 mq
    unfold PX3_makeRow_s_44 FX3_makeRow_s_44
    refine sf_if (fun c1 => ?_) (fun c1 => ?_)
    · have s2 := SX3_makeThing_s (z := z) x1 1 x3 h I f_x1 (iv_w (c := 0) (d := 3) (iv_lit (lo := 1) (hi := 1) (x := 1) rfl) rfl) f_x3 g_15_10
      refine sf_n s2.1 ?_
      exact ⟨trivial, QC_mk (iv_w (c := 0) (d := 3) s2.2.1 rfl) s2.2.2⟩
    · have f3 : iv 0 15 x4 := iv_ltl f_x4 f_x3 (nle c1) rfl
      have f4 : iv 1 16 x3 := iv_ltr f_x3 f_x4 (nle c1) rfl
      have f5 : iv 0 176 ((h 15 10) * 16) := iv_mulr (c := 16) rfl g_15_10 rfl
      have f6 : iv 0 191 (((h 15 10) * 16) + x4) := iv_add f5 f3 rfl
      refine sf_n (iv_in f6 rfl) ?_
      have I7 : IC z (hs h 24 (((h 15 10) * 16) + x4).toNatClampNeg 0) := ICs I (k := 24) (i := (((h 15 10) * 16) + x4).toNatClampNeg) (v := 0) (iv_any 0) rfl
      have f8 : iv 1 16 (x4 + 1) := iv_add f3 (iv_lit (lo := 1) (hi := 1) (x := 1) rfl) rfl
      exact ih x1 x3 (x4 + 1) (hs h 24 (((h 15 10) * 16) + x4).toNatClampNeg 0) I7 f_x1 (iv_w (c := 0) (d := 16) f4 rfl) (iv_w (c := 0) (d := 16) f8 rfl) (iv_r (hz_k (by decide)) g_15_10) (mu_up f3 mq rfl)
set_option maxRecDepth 100000 in
set_option maxHeartbeats 4000000 in
theorem SX3_makeRow_s {z : zT} (a0 : Int32) (a1 : Int32) (h : ph_H) (I : IC z h) (f_a0 : iv 0 27 a0) (f_a1 : iv 0 27 a1) : PX3_makeRow_s a0 a1 h ∧ QC z 0 3 (FX3_makeRow_s a0 a1 h) := by
  unfold PX3_makeRow_s FX3_makeRow_s
  refine sf_n (iv_in f_a1 rfl) ?_
  have f1 : iv 0 3 (h 16 (a1.toNatClampNeg)) := ICv I 16 _
  refine sf_if (fun c2 => ?_) (fun c2 => ?_)
  · have f3 : iv 0 0 (h 16 (a1.toNatClampNeg)) := iv_eql f1 (iv_lit (lo := 0) (hi := 0) (x := 0) rfl) c2 rfl
    refine sf_n (iv_in f_a1 rfl) ?_
    refine sf_if (fun c4 => ?_) (fun c4 => ?_)
    · have f5 : iv 0 2147483647 (h 17 (a1.toNatClampNeg)) := iv_ler (iv_any (h 17 (a1.toNatClampNeg))) (iv_lit (lo := 0) (hi := 0) (x := 0) rfl) c4 rfl
      refine sf_if (fun c6 => ?_) (fun c6 => ?_)
      · have f7 : iv 17 2147483647 (h 17 (a1.toNatClampNeg)) := iv_ltr f5 (iv_lit (lo := 16) (hi := 16) (x := 16) rfl) c6 rfl
        exact ⟨trivial, QC_mk (iv_w (c := 0) (d := 3) (iv_lit (lo := 3) (hi := 3) (x := 3) rfl) rfl) I⟩
      · have f8 : iv 0 16 (h 17 (a1.toNatClampNeg)) := iv_lel f5 (iv_lit (lo := 16) (hi := 16) (x := 16) rfl) (nlt c6) rfl
        have f9 : iv 0 12 (h 15 10) := ICv I 15 _
        refine sf_if (fun c10 => ?_) (fun c10 => ?_)
        · have f11 : iv 0 11 (h 15 10) := iv_ltl f9 (iv_lit (lo := 12) (hi := 12) (x := 12) rfl) c10 rfl
          exact SX3_makeRow_s_44 2000 a0 (h 17 (a1.toNatClampNeg)) 0 h I f_a0 f8 (iv_w (c := 0) (d := 16) (iv_lit (lo := 0) (hi := 0) (x := 0) rfl) rfl) f11 (mu_0u (iv_lit (lo := 0) (hi := 0) (x := 0) rfl) rfl)
        · have f12 : iv 12 12 (h 15 10) := iv_ler f9 (iv_lit (lo := 12) (hi := 12) (x := 12) rfl) (nlt c10) rfl
          exact ⟨trivial, QC_mk (iv_w (c := 0) (d := 3) (iv_lit (lo := 3) (hi := 3) (x := 3) rfl) rfl) I⟩
    · have f13 : iv (-2147483648) (-1) (h 17 (a1.toNatClampNeg)) := iv_ltl (iv_any (h 17 (a1.toNatClampNeg))) (iv_lit (lo := 0) (hi := 0) (x := 0) rfl) (nle c4) rfl
      exact ⟨trivial, QC_mk (iv_w (c := 0) (d := 3) (iv_lit (lo := 2) (hi := 2) (x := 2) rfl) rfl) I⟩
  · have f14 : iv 1 3 (h 16 (a1.toNatClampNeg)) := iv_nel f1 c2 rfl
    have f15 : iv 0 11 (h 17 (a1.toNatClampNeg)) := KVn_s I f14 rfl
    exact ⟨trivial, QC_mk (iv_w (c := 0) (d := 3) (iv_lit (lo := 1) (hi := 1) (x := 1) rfl) rfl) I⟩

-- X3_putCell_s
set_option maxRecDepth 100000 in
set_option maxHeartbeats 4000000 in
theorem SX3_putCell_s {z : zT} (a0 : Int32) (a1 : Int32) (h : ph_H) (I : IC z h) (f_a0 : iv 0 11 a0) (f_a1 : iv 0 27 a1) : PX3_putCell_s a0 a1 h ∧ QC z 0 0 (FX3_putCell_s a0 a1 h) := by
  unfold PX3_putCell_s FX3_putCell_s
  have I1 : IC z (hs h 15 15 a0) := ICs I (k := 15) (i := 15) (v := a0) (iv_any a0) rfl
  refine sf_n (iv_in f_a1 rfl) ?_
  have f2 : iv 0 3 (h 16 (a1.toNatClampNeg)) := ICv I 16 _
  refine sf_n (iv_in f_a1 rfl) ?_
  have s3 := SX3_hold_s (z := z) a0 (h 16 (a1.toNatClampNeg)) (h 17 (a1.toNatClampNeg)) (hs h 15 15 a0) I1 (iv_w (c := 0) (d := 27) f_a0 rfl) f2 (I.2.1.1 _)
  refine sf_n s3.1 ?_
  exact ⟨trivial, QC_mk s3.2.1 s3.2.2⟩

-- X3_hasRowPlace_s
set_option maxRecDepth 100000 in
set_option maxHeartbeats 4000000 in
theorem SX3_hasRowPlace_s {z : zT} (a0 : Int32) (a1 : Int32) (h : ph_H) (I : IC z h) : PX3_hasRowPlace_s a0 a1 h ∧ Qc 0 1 (fun r => ¬ r = 0 → iv 0 11 a0 ∧ iv 0 15 a1) (FX3_hasRowPlace_s a0 a1 h) := by
  unfold PX3_hasRowPlace_s FX3_hasRowPlace_s
  refine sf_if (fun c1 => ?_) (fun c1 => ?_)
  · have f2 : iv (-2147483648) (-1) a0 := iv_ltl (iv_any a0) (iv_lit (lo := 0) (hi := 0) (x := 0) rfl) c1 rfl
    exact ⟨trivial, (iv_w (c := 0) (d := 1) (iv_lit (lo := 0) (hi := 0) (x := 0) rfl) rfl), fun z => absurd rfl z⟩
  · have f3 : iv 0 2147483647 a0 := iv_ler (iv_any a0) (iv_lit (lo := 0) (hi := 0) (x := 0) rfl) (nlt c1) rfl
    have f4 : iv 0 12 (h 15 10) := ICv I 15 _
    refine sf_if (fun c5 => ?_) (fun c5 => ?_)
    · exact ⟨trivial, (iv_w (c := 0) (d := 1) (iv_lit (lo := 0) (hi := 0) (x := 0) rfl) rfl), fun z => absurd rfl z⟩
    · have f6 : iv 0 11 a0 := iv_ltl f3 f4 (nle c5) rfl
      have f7 : iv 1 12 (h 15 10) := iv_ltr f4 f3 (nle c5) rfl
      refine sf_n (iv_in f6 rfl) ?_
      refine sf_if (fun c8 => ?_) (fun c8 => ?_)
      · have f9 : iv 1 1 (h 21 (a0.toNatClampNeg)) := iv_eql (iv_any (h 21 (a0.toNatClampNeg))) (iv_lit (lo := 1) (hi := 1) (x := 1) rfl) c8 rfl
        refine sf_if (fun c10 => ?_) (fun c10 => ?_)
        · have f11 : iv (-2147483648) (-1) a1 := iv_ltl (iv_any a1) (iv_lit (lo := 0) (hi := 0) (x := 0) rfl) c10 rfl
          exact ⟨trivial, (iv_w (c := 0) (d := 1) (iv_lit (lo := 0) (hi := 0) (x := 0) rfl) rfl), fun z => absurd rfl z⟩
        · have f12 : iv 0 2147483647 a1 := iv_ler (iv_any a1) (iv_lit (lo := 0) (hi := 0) (x := 0) rfl) (nlt c10) rfl
          refine sf_n (iv_in f6 rfl) ?_
          have f13 : iv 0 16 (h 22 (a0.toNatClampNeg)) := ICv I 22 _
          refine sf_if (fun c14 => ?_) (fun c14 => ?_)
          · exact ⟨trivial, (iv_w (c := 0) (d := 1) (iv_lit (lo := 0) (hi := 0) (x := 0) rfl) rfl), fun z => absurd rfl z⟩
          · have f15 : iv 0 15 a1 := iv_ltl f12 f13 (nle c14) rfl
            have f16 : iv 1 16 (h 22 (a0.toNatClampNeg)) := iv_ltr f13 f12 (nle c14) rfl
            exact ⟨trivial, (iv_w (c := 0) (d := 1) (iv_lit (lo := 1) (hi := 1) (x := 1) rfl) rfl), fun _ => ⟨f6, f15⟩⟩
      · exact ⟨trivial, (iv_w (c := 0) (d := 1) (iv_lit (lo := 0) (hi := 0) (x := 0) rfl) rfl), fun z => absurd rfl z⟩

-- X3_readRow_s
set_option maxRecDepth 100000 in
set_option maxHeartbeats 4000000 in
theorem SX3_readRow_s {z : zT} (a0 : Int32) (a1 : Int32) (a2 : Int32) (h : ph_H) (I : IC z h) (f_a0 : iv 0 27 a0) (f_a1 : iv 0 27 a1) (f_a2 : iv 0 27 a2) : PX3_readRow_s a0 a1 a2 h ∧ QC z 0 4 (FX3_readRow_s a0 a1 a2 h) := by
  unfold PX3_readRow_s FX3_readRow_s
  refine sf_n (iv_in f_a1 rfl) ?_
  have f1 : iv 0 3 (h 16 (a1.toNatClampNeg)) := ICv I 16 _
  refine sf_if (fun c2 => ?_) (fun c2 => ?_)
  · have f3 : iv 1 1 (h 16 (a1.toNatClampNeg)) := iv_eql f1 (iv_lit (lo := 1) (hi := 1) (x := 1) rfl) c2 rfl
    have f4 : iv 0 11 (h 17 (a1.toNatClampNeg)) := KVn_s I f3 rfl
    refine sf_n (iv_in f_a2 rfl) ?_
    have f5 : iv 0 3 (h 16 (a2.toNatClampNeg)) := ICv I 16 _
    refine sf_if (fun c6 => ?_) (fun c6 => ?_)
    · have f7 : iv 0 0 (h 16 (a2.toNatClampNeg)) := iv_eql f5 (iv_lit (lo := 0) (hi := 0) (x := 0) rfl) c6 rfl
      refine sf_n (iv_in f_a1 rfl) ?_
      refine sf_n (iv_in f_a2 rfl) ?_
      have s8 := SX3_hasRowPlace_s (z := z) (h 17 (a1.toNatClampNeg)) (h 17 (a2.toNatClampNeg)) h I
      refine sf_n s8.1 ?_
      refine sf_if (fun c9 => ?_) (fun c9 => ?_)
      · have f10 : iv 0 0 (FX3_hasRowPlace_s (h 17 (a1.toNatClampNeg)) (h 17 (a2.toNatClampNeg)) h) := iv_eql s8.2.1 (iv_lit (lo := 0) (hi := 0) (x := 0) rfl) c9 rfl
        exact ⟨trivial, QC_mk (iv_w (c := 0) (d := 4) (iv_lit (lo := 4) (hi := 4) (x := 4) rfl) rfl) I⟩
      · have f11 : iv 0 15 (h 17 (a2.toNatClampNeg)) := iv_and (iv_any _) (s8.2.2 c9).2 rfl
        have f12 : iv 1 1 (FX3_hasRowPlace_s (h 17 (a1.toNatClampNeg)) (h 17 (a2.toNatClampNeg)) h) := iv_nel s8.2.1 c9 rfl
        have f13 : iv 0 220 ((h 17 (a1.toNatClampNeg)) * 20) := iv_mulr (c := 20) rfl f4 rfl
        have f14 : iv 100 320 (100 + ((h 17 (a1.toNatClampNeg)) * 20)) := iv_add (iv_lit (lo := 100) (hi := 100) (x := 100) rfl) f13 rfl
        have f15 : iv 100 335 ((100 + ((h 17 (a1.toNatClampNeg)) * 20)) + (h 17 (a2.toNatClampNeg))) := iv_add f14 f11 rfl
        have I16 : IC z (hs h 15 14 ((100 + ((h 17 (a1.toNatClampNeg)) * 20)) + (h 17 (a2.toNatClampNeg)))) := ICs I (k := 15) (i := 14) (v := ((100 + ((h 17 (a1.toNatClampNeg)) * 20)) + (h 17 (a2.toNatClampNeg)))) (iv_any ((100 + ((h 17 (a1.toNatClampNeg)) * 20)) + (h 17 (a2.toNatClampNeg)))) rfl
        have f17 : iv 0 176 ((h 17 (a1.toNatClampNeg)) * 16) := iv_mulr (c := 16) rfl f4 rfl
        have f18 : iv 0 191 (((h 17 (a1.toNatClampNeg)) * 16) + (h 17 (a2.toNatClampNeg))) := iv_add f17 f11 rfl
        refine sf_n (iv_in f18 rfl) ?_
        have s19 := SX3_hold_s (z := z) a0 0 (h 24 ((((h 17 (a1.toNatClampNeg)) * 16) + (h 17 (a2.toNatClampNeg))).toNatClampNeg)) (hs h 15 14 ((100 + ((h 17 (a1.toNatClampNeg)) * 20)) + (h 17 (a2.toNatClampNeg)))) I16 f_a0 (iv_w (c := 0) (d := 3) (iv_lit (lo := 0) (hi := 0) (x := 0) rfl) rfl) (Or.inl rfl)
        refine sf_n s19.1 ?_
        exact ⟨trivial, QC_mk (iv_w (c := 0) (d := 4) s19.2.1 rfl) s19.2.2⟩
    · have f20 : iv 1 3 (h 16 (a2.toNatClampNeg)) := iv_nel f5 c6 rfl
      have f21 : iv 0 11 (h 17 (a2.toNatClampNeg)) := KVn_s I f20 rfl
      exact ⟨trivial, QC_mk (iv_w (c := 0) (d := 4) (iv_lit (lo := 1) (hi := 1) (x := 1) rfl) rfl) I⟩
  · exact ⟨trivial, QC_mk (iv_w (c := 0) (d := 4) (iv_lit (lo := 1) (hi := 1) (x := 1) rfl) rfl) I⟩

-- X3_bothNumbers_s
set_option maxRecDepth 100000 in
set_option maxHeartbeats 4000000 in
theorem SX3_bothNumbers_s {z : zT} (a0 : Int32) (a1 : Int32) (h : ph_H) (I : IC z h) (f_a0 : iv 0 27 a0) (f_a1 : iv 0 27 a1) : PX3_bothNumbers_s a0 a1 h ∧ iv 0 1 (FX3_bothNumbers_s a0 a1 h) := by
  unfold PX3_bothNumbers_s FX3_bothNumbers_s
  refine sf_n (iv_in f_a0 rfl) ?_
  have f1 : iv 0 3 (h 16 (a0.toNatClampNeg)) := ICv I 16 _
  refine sf_if (fun c2 => ?_) (fun c2 => ?_)
  · have f3 : iv 0 0 (h 16 (a0.toNatClampNeg)) := iv_eql f1 (iv_lit (lo := 0) (hi := 0) (x := 0) rfl) c2 rfl
    refine sf_n (iv_in f_a1 rfl) ?_
    have f4 : iv 0 3 (h 16 (a1.toNatClampNeg)) := ICv I 16 _
    refine sf_if (fun c5 => ?_) (fun c5 => ?_)
    · have f6 : iv 0 0 (h 16 (a1.toNatClampNeg)) := iv_eql f4 (iv_lit (lo := 0) (hi := 0) (x := 0) rfl) c5 rfl
      exact ⟨trivial, (iv_w (c := 0) (d := 1) (iv_lit (lo := 1) (hi := 1) (x := 1) rfl) rfl)⟩
    · have f7 : iv 1 3 (h 16 (a1.toNatClampNeg)) := iv_nel f4 c5 rfl
      have f8 : iv 0 11 (h 17 (a1.toNatClampNeg)) := KVn_s I f7 rfl
      exact ⟨trivial, (iv_w (c := 0) (d := 1) (iv_lit (lo := 0) (hi := 0) (x := 0) rfl) rfl)⟩
  · have f9 : iv 1 3 (h 16 (a0.toNatClampNeg)) := iv_nel f1 c2 rfl
    have f10 : iv 0 11 (h 17 (a0.toNatClampNeg)) := KVn_s I f9 rfl
    exact ⟨trivial, (iv_w (c := 0) (d := 1) (iv_lit (lo := 0) (hi := 0) (x := 0) rfl) rfl)⟩

-- X3_reckon_s
set_option maxRecDepth 100000 in
set_option maxHeartbeats 4000000 in
theorem SX3_reckon_s {z : zT} (a0 : Int32) (a1 : Int32) (a2 : Int32) (h : ph_H) (I : IC z h) (f_a1 : iv 0 27 a1) (f_a2 : iv 0 27 a2) : PX3_reckon_s a0 a1 a2 h ∧ QC z 0 1 (FX3_reckon_s a0 a1 a2 h) := by
  unfold PX3_reckon_s FX3_reckon_s
  have s1 := SX3_bothNumbers_s (z := z) a1 a2 h I f_a1 f_a2
  refine sf_n s1.1 ?_
  refine sf_if (fun c2 => ?_) (fun c2 => ?_)
  · have f3 : iv 0 0 (FX3_bothNumbers_s a1 a2 h) := iv_eql s1.2 (iv_lit (lo := 0) (hi := 0) (x := 0) rfl) c2 rfl
    exact ⟨trivial, QC_mk (iv_w (c := 0) (d := 1) (iv_lit (lo := 1) (hi := 1) (x := 1) rfl) rfl) I⟩
  · have f4 : iv 1 1 (FX3_bothNumbers_s a1 a2 h) := iv_nel s1.2 c2 rfl
    refine sf_n (iv_in f_a1 rfl) ?_
    refine sf_n (iv_in f_a2 rfl) ?_
    refine sf_if (fun c5 => ?_) (fun c5 => ?_)
    · have f6 : iv 3 3 a0 := iv_eql (iv_any a0) (iv_lit (lo := 3) (hi := 3) (x := 3) rfl) c5 rfl
      unfold PX3_reckon_s_58 FX3_reckon_s_58
      have s7 := SX3_hold_s (z := z) a1 0 ((h 17 (a1.toNatClampNeg)) + (h 17 (a2.toNatClampNeg))) h I f_a1 (iv_w (c := 0) (d := 3) (iv_lit (lo := 0) (hi := 0) (x := 0) rfl) rfl) (Or.inl rfl)
      refine sf_n s7.1 ?_
      exact ⟨trivial, QC_mk (iv_w (c := 0) (d := 1) s7.2.1 rfl) s7.2.2⟩
    · refine sf_if (fun c8 => ?_) (fun c8 => ?_)
      · have f9 : iv 4 4 a0 := iv_eql (iv_any a0) (iv_lit (lo := 4) (hi := 4) (x := 4) rfl) c8 rfl
        unfold PX3_reckon_s_58 FX3_reckon_s_58
        have s10 := SX3_hold_s (z := z) a1 0 ((h 17 (a1.toNatClampNeg)) - (h 17 (a2.toNatClampNeg))) h I f_a1 (iv_w (c := 0) (d := 3) (iv_lit (lo := 0) (hi := 0) (x := 0) rfl) rfl) (Or.inl rfl)
        refine sf_n s10.1 ?_
        exact ⟨trivial, QC_mk (iv_w (c := 0) (d := 1) s10.2.1 rfl) s10.2.2⟩
      · unfold PX3_reckon_s_58 FX3_reckon_s_58
        have s11 := SX3_hold_s (z := z) a1 0 ((h 17 (a1.toNatClampNeg)) * (h 17 (a2.toNatClampNeg))) h I f_a1 (iv_w (c := 0) (d := 3) (iv_lit (lo := 0) (hi := 0) (x := 0) rfl) rfl) (Or.inl rfl)
        refine sf_n s11.1 ?_
        exact ⟨trivial, QC_mk (iv_w (c := 0) (d := 1) s11.2.1 rfl) s11.2.2⟩

-- X3_startThread_s
set_option maxRecDepth 100000 in
set_option maxHeartbeats 4000000 in
theorem SX3_startThread_s {z : zT} (a0 : Int32) (h : ph_H) (I : IC z h) (f_a0 : iv 0 3 a0) : PX3_startThread_s a0 h ∧ QC z 0 5 (FX3_startThread_s a0 h) := by
  unfold PX3_startThread_s FX3_startThread_s
  refine sf_n (iv_in f_a0 rfl) ?_
  refine sf_if (fun c1 => ?_) (fun c1 => ?_)
  · have f2 : iv 0 0 (h 19 (a0.toNatClampNeg)) := iv_eql (iv_any (h 19 (a0.toNatClampNeg))) (iv_lit (lo := 0) (hi := 0) (x := 0) rfl) c1 rfl
    refine sf_n (iv_in f_a0 rfl) ?_
    have I3 : IC z (hs h 19 a0.toNatClampNeg 1) := ICs I (k := 19) (i := a0.toNatClampNeg) (v := 1) (iv_any 1) rfl
    have I5 : IC z (hs (hs (hs h 19 a0.toNatClampNeg 1) 15 16 4) 15 17 a0) := ICmm I3 (iv_w (c := 0) (d := 4) (iv_lit (lo := 4) (hi := 4) (x := 4) rfl) rfl) (iv_w (c := 0) (d := 11) f_a0 rfl) (fun _ => f_a0)
    exact ⟨trivial, QC_mk (iv_w (c := 0) (d := 5) (iv_lit (lo := 0) (hi := 0) (x := 0) rfl) rfl) I5⟩
  · exact ⟨trivial, QC_mk (iv_w (c := 0) (d := 5) (iv_lit (lo := 5) (hi := 5) (x := 5) rfl) rfl) I⟩

-- X3_takeInput_s
set_option maxRecDepth 100000 in
set_option maxHeartbeats 4000000 in
theorem SX3_takeInput_s {z : zT} (a0 : Int32) (h : ph_H) (I : IC z h) (f_a0 : iv 0 27 a0) : PX3_takeInput_s a0 h ∧ QC z 0 7 (FX3_takeInput_s a0 h) := by
  unfold PX3_takeInput_s FX3_takeInput_s
  have f1 : iv 0 30 (h 15 12) := ICv I 15 _
  refine sf_if (fun c2 => ?_) (fun c2 => ?_)
  · have f3 : iv (-2147483648) 30 (h 15 11) := iv_lel (iv_any (h 15 11)) f1 c2 rfl
    exact ⟨trivial, QC_mk (iv_w (c := 0) (d := 7) (iv_lit (lo := 7) (hi := 7) (x := 7) rfl) rfl) I⟩
  · have f4 : iv 1 2147483647 (h 15 11) := iv_ltr (iv_any (h 15 11)) f1 (nle c2) rfl
    refine sf_if (fun c5 => ?_) (fun c5 => ?_)
    · have f6 : iv 0 29 (h 15 12) := iv_ltl f1 (iv_lit (lo := 30) (hi := 30) (x := 30) rfl) c5 rfl
      have f7 : iv 1 30 ((h 15 12) + 1) := iv_add f6 (iv_lit (lo := 1) (hi := 1) (x := 1) rfl) rfl
      have I8 : IC z (hs h 15 12 ((h 15 12) + 1)) := ICs I (k := 15) (i := 12) (v := ((h 15 12) + 1)) (iv_w (c := 0) (d := 30) f7 rfl) rfl
      have f9 : iv 0 29 (((h 15 12) + 1) - 1) := iv_sub f7 (iv_lit (lo := 1) (hi := 1) (x := 1) rfl) rfl
      refine sf_n (iv_in f9 rfl) ?_
      have s10 := SX3_hold_s (z := z) a0 0 (h 12 ((((h 15 12) + 1) - 1).toNatClampNeg)) (hs h 15 12 ((h 15 12) + 1)) I8 f_a0 (iv_w (c := 0) (d := 3) (iv_lit (lo := 0) (hi := 0) (x := 0) rfl) rfl) (Or.inl rfl)
      refine sf_n s10.1 ?_
      exact ⟨trivial, QC_mk (iv_w (c := 0) (d := 7) s10.2.1 rfl) s10.2.2⟩
    · have f11 : iv 30 30 (h 15 12) := iv_ler f1 (iv_lit (lo := 30) (hi := 30) (x := 30) rfl) (nlt c5) rfl
      exact ⟨trivial, QC_mk (iv_w (c := 0) (d := 7) (iv_lit (lo := 7) (hi := 7) (x := 7) rfl) rfl) I⟩

-- X3_own_s
set_option maxRecDepth 100000 in
set_option maxHeartbeats 4000000 in
theorem SX3_own_s {z : zT} (a0 : Int32) (a1 : Int32) (h : ph_H) (I : IC z h) (f_a1 : iv 0 11 a1) : PX3_own_s a0 a1 h ∧ QC z 0 0 (FX3_own_s a0 a1 h) := by
  unfold PX3_own_s FX3_own_s
  refine sf_n (iv_in f_a1 rfl) ?_
  have I1 : IC z (hs h 23 a1.toNatClampNeg a0) := ICs I (k := 23) (i := a1.toNatClampNeg) (v := a0) (iv_any a0) rfl
  have I2 : IC z (hs (hs h 23 a1.toNatClampNeg a0) 15 16 1) := ICm1 I1 (iv_w (c := 0) (d := 4) (iv_lit (lo := 1) (hi := 1) (x := 1) rfl) rfl) (by decide)
  have I3 : IC z (hs (hs (hs h 23 a1.toNatClampNeg a0) 15 16 1) 15 17 a1) := ICmm I1 (iv_w (c := 0) (d := 4) (iv_lit (lo := 1) (hi := 1) (x := 1) rfl) rfl) f_a1 (fun e => absurd e (by decide))
  exact ⟨trivial, QC_mk (iv_lit (lo := 0) (hi := 0) (x := 0) rfl) I3⟩

-- X3_takeLock_s
set_option maxRecDepth 100000 in
set_option maxHeartbeats 4000000 in
theorem SX3_takeLock_s {z : zT} (a0 : Int32) (a1 : Int32) (h : ph_H) (I : IC z h) (f_a0 : iv 0 3 a0) (f_a1 : iv 0 27 a1) : PX3_takeLock_s a0 a1 h ∧ QC z 0 5 (FX3_takeLock_s a0 a1 h) := by
  unfold PX3_takeLock_s FX3_takeLock_s
  have s1 := SX3_lockIn_s (z := z) a1 h I f_a1
  refine sf_n s1.1 ?_
  refine sf_if (fun c2 => ?_) (fun c2 => ?_)
  · have f3 : iv 0 11 (FX3_lockIn_s a1 h) := iv_ler s1.2 (iv_lit (lo := 0) (hi := 0) (x := 0) rfl) c2 rfl
    refine sf_n (iv_in f3 rfl) ?_
    refine sf_if (fun c4 => ?_) (fun c4 => ?_)
    · have f5 : iv 0 3 (h 23 ((FX3_lockIn_s a1 h).toNatClampNeg)) := iv_eql (iv_any (h 23 ((FX3_lockIn_s a1 h).toNatClampNeg))) f_a0 c4 rfl
      exact ⟨trivial, QC_mk (iv_w (c := 0) (d := 5) (iv_lit (lo := 5) (hi := 5) (x := 5) rfl) rfl) I⟩
    · have s6 := SX3_own_s (z := z) a0 (FX3_lockIn_s a1 h) h I f3
      refine sf_n s6.1 ?_
      exact ⟨trivial, QC_mk (iv_w (c := 0) (d := 5) s6.2.1 rfl) s6.2.2⟩
  · have f7 : iv (-1) (-1) (FX3_lockIn_s a1 h) := iv_ltl s1.2 (iv_lit (lo := 0) (hi := 0) (x := 0) rfl) (nle c2) rfl
    exact ⟨trivial, QC_mk (iv_w (c := 0) (d := 5) (iv_lit (lo := 1) (hi := 1) (x := 1) rfl) rfl) I⟩

-- X3_wakeSleepers_s
set_option maxRecDepth 100000 in
set_option maxHeartbeats 4000000 in
theorem SX3_wakeSleepers_s_28 {z : zT} : ∀ (q : Nat) (x3 : Int32) (x4 : Int32) (h : ph_H), IC z h → iv 0 11 x3 → iv 0 4 x4 → 4 - (x4).toInt < ((q : Nat) : Int) → PX3_wakeSleepers_s_28  q x3 x4 h ∧ QC z 0 6 (FX3_wakeSleepers_s_28  q x3 x4 h) := by
  intro q
  induction q with
  | zero =>
    intro x3 x4 h I f_x3 f_x4 mq
    exact mu_zu f_x4 mq rfl
  | succ q ih =>
    intro x3 x4 h I f_x3 f_x4 mq
    unfold PX3_wakeSleepers_s_28 FX3_wakeSleepers_s_28
    refine sf_if (fun c1 => ?_) (fun c1 => ?_)
    · have f2 : iv 4 4 x4 := iv_ler f_x4 (iv_lit (lo := 4) (hi := 4) (x := 4) rfl) c1 rfl
      have I3 : IC z (hs h 15 16 3) := ICm1 I (iv_w (c := 0) (d := 4) (iv_lit (lo := 3) (hi := 3) (x := 3) rfl) rfl) (by decide)
      exact ⟨trivial, QC_mk (iv_w (c := 0) (d := 6) (iv_lit (lo := 0) (hi := 0) (x := 0) rfl) rfl) I3⟩
    · have f4 : iv 0 3 x4 := iv_ltl f_x4 (iv_lit (lo := 4) (hi := 4) (x := 4) rfl) (nle c1) rfl
      refine sf_n (iv_in f4 rfl) ?_
      refine sf_if (fun c5 => ?_) (fun c5 => ?_)
      · have f6 : iv 2 2 (h 19 (x4.toNatClampNeg)) := iv_eql (iv_any (h 19 (x4.toNatClampNeg))) (iv_lit (lo := 2) (hi := 2) (x := 2) rfl) c5 rfl
        refine sf_n (iv_in f4 rfl) ?_
        have f7 : iv 0 11 (h 20 (x4.toNatClampNeg)) := ICv I 20 _
        refine sf_if (fun c8 => ?_) (fun c8 => ?_)
        · refine sf_n (iv_in f4 rfl) ?_
          have I9 : IC z (hs h 19 x4.toNatClampNeg 3) := ICs I (k := 19) (i := x4.toNatClampNeg) (v := 3) (iv_any 3) rfl
          unfold PX3_wakeSleepers_s_64 FX3_wakeSleepers_s_64
          have f10 : iv 1 4 (x4 + 1) := iv_add f4 (iv_lit (lo := 1) (hi := 1) (x := 1) rfl) rfl
          exact ih x3 (x4 + 1) (hs h 19 x4.toNatClampNeg 3) I9 f_x3 (iv_w (c := 0) (d := 4) f10 rfl) (mu_up f4 mq rfl)
        · unfold PX3_wakeSleepers_s_64 FX3_wakeSleepers_s_64
          have f11 : iv 1 4 (x4 + 1) := iv_add f4 (iv_lit (lo := 1) (hi := 1) (x := 1) rfl) rfl
          exact ih x3 (x4 + 1) h I f_x3 (iv_w (c := 0) (d := 4) f11 rfl) (mu_up f4 mq rfl)
      · unfold PX3_wakeSleepers_s_64 FX3_wakeSleepers_s_64
        have f12 : iv 1 4 (x4 + 1) := iv_add f4 (iv_lit (lo := 1) (hi := 1) (x := 1) rfl) rfl
        exact ih x3 (x4 + 1) h I f_x3 (iv_w (c := 0) (d := 4) f12 rfl) (mu_up f4 mq rfl)
set_option maxRecDepth 100000 in
set_option maxHeartbeats 4000000 in
theorem SX3_wakeSleepers_s {z : zT} (a0 : Int32) (a1 : Int32) (h : ph_H) (I : IC z h) (f_a1 : iv 0 27 a1) : PX3_wakeSleepers_s a0 a1 h ∧ QC z 0 6 (FX3_wakeSleepers_s a0 a1 h) := by
  unfold PX3_wakeSleepers_s FX3_wakeSleepers_s
  have s1 := SX3_gateIn_s (z := z) a1 h I f_a1
  refine sf_n s1.1 ?_
  refine sf_if (fun c2 => ?_) (fun c2 => ?_)
  · have f3 : iv 0 11 (FX3_gateIn_s a1 h) := iv_ler s1.2 (iv_lit (lo := 0) (hi := 0) (x := 0) rfl) c2 rfl
    refine sf_n (iv_in f3 rfl) ?_
    refine sf_if (fun c4 => ?_) (fun c4 => ?_)
    · exact SX3_wakeSleepers_s_28 2000 (FX3_gateIn_s a1 h) 0 h I f3 (iv_w (c := 0) (d := 4) (iv_lit (lo := 0) (hi := 0) (x := 0) rfl) rfl) (mu_0u (iv_lit (lo := 0) (hi := 0) (x := 0) rfl) rfl)
    · exact ⟨trivial, QC_mk (iv_w (c := 0) (d := 6) (iv_lit (lo := 6) (hi := 6) (x := 6) rfl) rfl) I⟩
  · have f5 : iv (-1) (-1) (FX3_gateIn_s a1 h) := iv_ltl s1.2 (iv_lit (lo := 0) (hi := 0) (x := 0) rfl) (nle c2) rfl
    exact ⟨trivial, QC_mk (iv_w (c := 0) (d := 6) (iv_lit (lo := 1) (hi := 1) (x := 1) rfl) rfl) I⟩

-- X3_writeRow_s
set_option maxRecDepth 100000 in
set_option maxHeartbeats 4000000 in
theorem SX3_writeRow_s {z : zT} (a0 : Int32) (a1 : Int32) (a2 : Int32) (h : ph_H) (I : IC z h) (f_a0 : iv 0 27 a0) (f_a1 : iv 0 27 a1) (f_a2 : iv 0 27 a2) : PX3_writeRow_s a0 a1 a2 h ∧ QC z 0 4 (FX3_writeRow_s a0 a1 a2 h) := by
  unfold PX3_writeRow_s FX3_writeRow_s
  refine sf_n (iv_in f_a0 rfl) ?_
  have f1 : iv 0 3 (h 16 (a0.toNatClampNeg)) := ICv I 16 _
  refine sf_if (fun c2 => ?_) (fun c2 => ?_)
  · have f3 : iv 1 1 (h 16 (a0.toNatClampNeg)) := iv_eql f1 (iv_lit (lo := 1) (hi := 1) (x := 1) rfl) c2 rfl
    have f4 : iv 0 11 (h 17 (a0.toNatClampNeg)) := KVn_s I f3 rfl
    have s5 := SX3_bothNumbers_s (z := z) a1 a2 h I f_a1 f_a2
    refine sf_n s5.1 ?_
    refine sf_if (fun c6 => ?_) (fun c6 => ?_)
    · have f7 : iv 0 0 (FX3_bothNumbers_s a1 a2 h) := iv_eql s5.2 (iv_lit (lo := 0) (hi := 0) (x := 0) rfl) c6 rfl
      exact ⟨trivial, QC_mk (iv_w (c := 0) (d := 4) (iv_lit (lo := 1) (hi := 1) (x := 1) rfl) rfl) I⟩
    · have f8 : iv 1 1 (FX3_bothNumbers_s a1 a2 h) := iv_nel s5.2 c6 rfl
      refine sf_n (iv_in f_a0 rfl) ?_
      refine sf_n (iv_in f_a1 rfl) ?_
      have s9 := SX3_hasRowPlace_s (z := z) (h 17 (a0.toNatClampNeg)) (h 17 (a1.toNatClampNeg)) h I
      refine sf_n s9.1 ?_
      refine sf_if (fun c10 => ?_) (fun c10 => ?_)
      · have f11 : iv 0 0 (FX3_hasRowPlace_s (h 17 (a0.toNatClampNeg)) (h 17 (a1.toNatClampNeg)) h) := iv_eql s9.2.1 (iv_lit (lo := 0) (hi := 0) (x := 0) rfl) c10 rfl
        exact ⟨trivial, QC_mk (iv_w (c := 0) (d := 4) (iv_lit (lo := 4) (hi := 4) (x := 4) rfl) rfl) I⟩
      · have f12 : iv 0 15 (h 17 (a1.toNatClampNeg)) := iv_and (iv_any _) (s9.2.2 c10).2 rfl
        have f13 : iv 1 1 (FX3_hasRowPlace_s (h 17 (a0.toNatClampNeg)) (h 17 (a1.toNatClampNeg)) h) := iv_nel s9.2.1 c10 rfl
        have f14 : iv 0 220 ((h 17 (a0.toNatClampNeg)) * 20) := iv_mulr (c := 20) rfl f4 rfl
        have f15 : iv 100 320 (100 + ((h 17 (a0.toNatClampNeg)) * 20)) := iv_add (iv_lit (lo := 100) (hi := 100) (x := 100) rfl) f14 rfl
        have f16 : iv 100 335 ((100 + ((h 17 (a0.toNatClampNeg)) * 20)) + (h 17 (a1.toNatClampNeg))) := iv_add f15 f12 rfl
        have I17 : IC z (hs h 15 15 ((100 + ((h 17 (a0.toNatClampNeg)) * 20)) + (h 17 (a1.toNatClampNeg)))) := ICs I (k := 15) (i := 15) (v := ((100 + ((h 17 (a0.toNatClampNeg)) * 20)) + (h 17 (a1.toNatClampNeg)))) (iv_any ((100 + ((h 17 (a0.toNatClampNeg)) * 20)) + (h 17 (a1.toNatClampNeg)))) rfl
        have f18 : iv 0 176 ((h 17 (a0.toNatClampNeg)) * 16) := iv_mulr (c := 16) rfl f4 rfl
        have f19 : iv 0 191 (((h 17 (a0.toNatClampNeg)) * 16) + (h 17 (a1.toNatClampNeg))) := iv_add f18 f12 rfl
        refine sf_n (iv_in f_a2 rfl) ?_
        refine sf_n (iv_in f19 rfl) ?_
        have I20 : IC z (hs (hs h 15 15 ((100 + ((h 17 (a0.toNatClampNeg)) * 20)) + (h 17 (a1.toNatClampNeg)))) 24 (((h 17 (a0.toNatClampNeg)) * 16) + (h 17 (a1.toNatClampNeg))).toNatClampNeg (h 17 (a2.toNatClampNeg))) := ICs I17 (k := 24) (i := (((h 17 (a0.toNatClampNeg)) * 16) + (h 17 (a1.toNatClampNeg))).toNatClampNeg) (v := (h 17 (a2.toNatClampNeg))) (iv_any (h 17 (a2.toNatClampNeg))) rfl
        exact ⟨trivial, QC_mk (iv_w (c := 0) (d := 4) (iv_lit (lo := 0) (hi := 0) (x := 0) rfl) rfl) I20⟩
  · exact ⟨trivial, QC_mk (iv_w (c := 0) (d := 4) (iv_lit (lo := 1) (hi := 1) (x := 1) rfl) rfl) I⟩

-- X3_perform_s
set_option maxRecDepth 100000 in
set_option maxHeartbeats 4000000 in
theorem SX3_perform_s {z : zT} (a0 : Int32) (h : ph_H) (I : IC z h) (f_a0 : iv 0 3 a0) (e_0 : iv 0 23 (h 18 (a0.toNatClampNeg))) : PX3_perform_s a0 h ∧ QC z 0 19 (FX3_perform_s a0 h) := by
  unfold PX3_perform_s FX3_perform_s
  refine sf_n (iv_in f_a0 rfl) ?_
  have s1 := SX5_firstPart_t (z := z) a0 (h 18 (a0.toNatClampNeg)) h I f_a0 e_0
  refine sf_n s1.1 ?_
  have f2 : iv 1 381 ((FX5_firstPart_t a0 (h 18 (a0.toNatClampNeg)) h) + 1) := iv_add s1.2 (iv_lit (lo := 1) (hi := 1) (x := 1) rfl) rfl
  refine sf_n (iv_in f2 rfl) ?_
  have f3 : iv 2 382 ((FX5_firstPart_t a0 (h 18 (a0.toNatClampNeg)) h) + 2) := iv_add s1.2 (iv_lit (lo := 2) (hi := 2) (x := 2) rfl) rfl
  refine sf_n (iv_in f3 rfl) ?_
  have s4 := SX3_slotOf a0 (h 10 (((FX5_firstPart_t a0 (h 18 (a0.toNatClampNeg)) h) + 1).toNatClampNeg)) f_a0
  refine sf_n s4.1 ?_
  have s5 := SX3_slotOf a0 (h 10 (((FX5_firstPart_t a0 (h 18 (a0.toNatClampNeg)) h) + 2).toNatClampNeg)) f_a0
  refine sf_n s5.1 ?_
  have f6 : iv 3 383 ((FX5_firstPart_t a0 (h 18 (a0.toNatClampNeg)) h) + 3) := iv_add s1.2 (iv_lit (lo := 3) (hi := 3) (x := 3) rfl) rfl
  refine sf_n (iv_in f6 rfl) ?_
  have s7 := SX3_slotOf a0 (h 10 (((FX5_firstPart_t a0 (h 18 (a0.toNatClampNeg)) h) + 3).toNatClampNeg)) f_a0
  refine sf_n s7.1 ?_
  refine sf_n (iv_in s1.2 rfl) ?_
  refine sf_if (fun c8 => ?_) (fun c8 => ?_)
  · have f9 : iv 0 0 (h 10 ((FX5_firstPart_t a0 (h 18 (a0.toNatClampNeg)) h).toNatClampNeg)) := iv_eql (iv_any (h 10 ((FX5_firstPart_t a0 (h 18 (a0.toNatClampNeg)) h).toNatClampNeg))) (iv_lit (lo := 0) (hi := 0) (x := 0) rfl) c8 rfl
    have s10 := SX3_hold_s (z := z) (FX3_slotOf a0 (h 10 (((FX5_firstPart_t a0 (h 18 (a0.toNatClampNeg)) h) + 1).toNatClampNeg))) 0 (h 10 (((FX5_firstPart_t a0 (h 18 (a0.toNatClampNeg)) h) + 2).toNatClampNeg)) h I (iv_w (c := 0) (d := 27) s4.2 rfl) (iv_w (c := 0) (d := 3) (iv_lit (lo := 0) (hi := 0) (x := 0) rfl) rfl) (Or.inl rfl)
    refine sf_n s10.1 ?_
    exact ⟨trivial, QC_mk (iv_w (c := 0) (d := 19) s10.2.1 rfl) s10.2.2⟩
  refine sf_if (fun c11 => ?_) (fun c11 => ?_)
  · have f12 : iv 1 1 (h 10 ((FX5_firstPart_t a0 (h 18 (a0.toNatClampNeg)) h).toNatClampNeg)) := iv_eql (iv_any (h 10 ((FX5_firstPart_t a0 (h 18 (a0.toNatClampNeg)) h).toNatClampNeg))) (iv_lit (lo := 1) (hi := 1) (x := 1) rfl) c11 rfl
    refine sf_n (fmod_p (m := 12) (by decide) (by decide)) ?_
    have f13 : iv 0 11 (FJ9_floorMod_7cf53 (h 10 (((FX5_firstPart_t a0 (h 18 (a0.toNatClampNeg)) h) + 2).toNatClampNeg)) 12) := fmod_iv (m := 12) rfl
    have s14 := SX3_getCell_s (z := z) (FX3_slotOf a0 (h 10 (((FX5_firstPart_t a0 (h 18 (a0.toNatClampNeg)) h) + 1).toNatClampNeg))) (FJ9_floorMod_7cf53 (h 10 (((FX5_firstPart_t a0 (h 18 (a0.toNatClampNeg)) h) + 2).toNatClampNeg)) 12) h I (iv_w (c := 0) (d := 27) s4.2 rfl) f13
    refine sf_n s14.1 ?_
    exact ⟨trivial, QC_mk (iv_w (c := 0) (d := 19) s14.2.1 rfl) s14.2.2⟩
  refine sf_if (fun c15 => ?_) (fun c15 => ?_)
  · have f16 : iv 2 2 (h 10 ((FX5_firstPart_t a0 (h 18 (a0.toNatClampNeg)) h).toNatClampNeg)) := iv_eql (iv_any (h 10 ((FX5_firstPart_t a0 (h 18 (a0.toNatClampNeg)) h).toNatClampNeg))) (iv_lit (lo := 2) (hi := 2) (x := 2) rfl) c15 rfl
    refine sf_n (fmod_p (m := 12) (by decide) (by decide)) ?_
    have f17 : iv 0 11 (FJ9_floorMod_7cf53 (h 10 (((FX5_firstPart_t a0 (h 18 (a0.toNatClampNeg)) h) + 1).toNatClampNeg)) 12) := fmod_iv (m := 12) rfl
    have s18 := SX3_putCell_s (z := z) (FJ9_floorMod_7cf53 (h 10 (((FX5_firstPart_t a0 (h 18 (a0.toNatClampNeg)) h) + 1).toNatClampNeg)) 12) (FX3_slotOf a0 (h 10 (((FX5_firstPart_t a0 (h 18 (a0.toNatClampNeg)) h) + 2).toNatClampNeg))) h I f17 (iv_w (c := 0) (d := 27) s5.2 rfl)
    refine sf_n s18.1 ?_
    exact ⟨trivial, QC_mk (iv_w (c := 0) (d := 19) s18.2.1 rfl) s18.2.2⟩
  refine sf_if (fun c19 => ?_) (fun c19 => ?_)
  · have f20 : iv 3 3 (h 10 ((FX5_firstPart_t a0 (h 18 (a0.toNatClampNeg)) h).toNatClampNeg)) := iv_eql (iv_any (h 10 ((FX5_firstPart_t a0 (h 18 (a0.toNatClampNeg)) h).toNatClampNeg))) (iv_lit (lo := 3) (hi := 3) (x := 3) rfl) c19 rfl
    refine sf_n (iv_in s1.2 rfl) ?_
    have s21 := SX3_reckon_s (z := z) (h 10 ((FX5_firstPart_t a0 (h 18 (a0.toNatClampNeg)) h).toNatClampNeg)) (FX3_slotOf a0 (h 10 (((FX5_firstPart_t a0 (h 18 (a0.toNatClampNeg)) h) + 1).toNatClampNeg))) (FX3_slotOf a0 (h 10 (((FX5_firstPart_t a0 (h 18 (a0.toNatClampNeg)) h) + 2).toNatClampNeg))) h I (iv_w (c := 0) (d := 27) s4.2 rfl) (iv_w (c := 0) (d := 27) s5.2 rfl)
    refine sf_n s21.1 ?_
    exact ⟨trivial, QC_mk (iv_w (c := 0) (d := 19) s21.2.1 rfl) s21.2.2⟩
  refine sf_if (fun c22 => ?_) (fun c22 => ?_)
  · have f23 : iv 4 4 (h 10 ((FX5_firstPart_t a0 (h 18 (a0.toNatClampNeg)) h).toNatClampNeg)) := iv_eql (iv_any (h 10 ((FX5_firstPart_t a0 (h 18 (a0.toNatClampNeg)) h).toNatClampNeg))) (iv_lit (lo := 4) (hi := 4) (x := 4) rfl) c22 rfl
    refine sf_n (iv_in s1.2 rfl) ?_
    have s24 := SX3_reckon_s (z := z) (h 10 ((FX5_firstPart_t a0 (h 18 (a0.toNatClampNeg)) h).toNatClampNeg)) (FX3_slotOf a0 (h 10 (((FX5_firstPart_t a0 (h 18 (a0.toNatClampNeg)) h) + 1).toNatClampNeg))) (FX3_slotOf a0 (h 10 (((FX5_firstPart_t a0 (h 18 (a0.toNatClampNeg)) h) + 2).toNatClampNeg))) h I (iv_w (c := 0) (d := 27) s4.2 rfl) (iv_w (c := 0) (d := 27) s5.2 rfl)
    refine sf_n s24.1 ?_
    exact ⟨trivial, QC_mk (iv_w (c := 0) (d := 19) s24.2.1 rfl) s24.2.2⟩
  refine sf_if (fun c25 => ?_) (fun c25 => ?_)
  · have f26 : iv 5 5 (h 10 ((FX5_firstPart_t a0 (h 18 (a0.toNatClampNeg)) h).toNatClampNeg)) := iv_eql (iv_any (h 10 ((FX5_firstPart_t a0 (h 18 (a0.toNatClampNeg)) h).toNatClampNeg))) (iv_lit (lo := 5) (hi := 5) (x := 5) rfl) c25 rfl
    refine sf_n (iv_in s1.2 rfl) ?_
    have s27 := SX3_reckon_s (z := z) (h 10 ((FX5_firstPart_t a0 (h 18 (a0.toNatClampNeg)) h).toNatClampNeg)) (FX3_slotOf a0 (h 10 (((FX5_firstPart_t a0 (h 18 (a0.toNatClampNeg)) h) + 1).toNatClampNeg))) (FX3_slotOf a0 (h 10 (((FX5_firstPart_t a0 (h 18 (a0.toNatClampNeg)) h) + 2).toNatClampNeg))) h I (iv_w (c := 0) (d := 27) s4.2 rfl) (iv_w (c := 0) (d := 27) s5.2 rfl)
    refine sf_n s27.1 ?_
    exact ⟨trivial, QC_mk (iv_w (c := 0) (d := 19) s27.2.1 rfl) s27.2.2⟩
  refine sf_if (fun c28 => ?_) (fun c28 => ?_)
  · have f29 : iv 6 6 (h 10 ((FX5_firstPart_t a0 (h 18 (a0.toNatClampNeg)) h).toNatClampNeg)) := iv_eql (iv_any (h 10 ((FX5_firstPart_t a0 (h 18 (a0.toNatClampNeg)) h).toNatClampNeg))) (iv_lit (lo := 6) (hi := 6) (x := 6) rfl) c28 rfl
    have s30 := SX3_goTo_s (z := z) (h 10 (((FX5_firstPart_t a0 (h 18 (a0.toNatClampNeg)) h) + 1).toNatClampNeg)) h I
    refine sf_n s30.1 ?_
    exact ⟨trivial, QC_mk (iv_w (c := 0) (d := 19) s30.2.1 rfl) s30.2.2⟩
  refine sf_if (fun c31 => ?_) (fun c31 => ?_)
  · have f32 : iv 7 7 (h 10 ((FX5_firstPart_t a0 (h 18 (a0.toNatClampNeg)) h).toNatClampNeg)) := iv_eql (iv_any (h 10 ((FX5_firstPart_t a0 (h 18 (a0.toNatClampNeg)) h).toNatClampNeg))) (iv_lit (lo := 7) (hi := 7) (x := 7) rfl) c31 rfl
    have s33 := SX3_goUnless_s (z := z) (FX3_slotOf a0 (h 10 (((FX5_firstPart_t a0 (h 18 (a0.toNatClampNeg)) h) + 1).toNatClampNeg))) (h 10 (((FX5_firstPart_t a0 (h 18 (a0.toNatClampNeg)) h) + 2).toNatClampNeg)) h I (iv_w (c := 0) (d := 27) s4.2 rfl)
    refine sf_n s33.1 ?_
    exact ⟨trivial, QC_mk (iv_w (c := 0) (d := 19) s33.2.1 rfl) s33.2.2⟩
  refine sf_if (fun c34 => ?_) (fun c34 => ?_)
  · have f35 : iv 8 8 (h 10 ((FX5_firstPart_t a0 (h 18 (a0.toNatClampNeg)) h).toNatClampNeg)) := iv_eql (iv_any (h 10 ((FX5_firstPart_t a0 (h 18 (a0.toNatClampNeg)) h).toNatClampNeg))) (iv_lit (lo := 8) (hi := 8) (x := 8) rfl) c34 rfl
    have s36 := SX3_makeRow_s (z := z) (FX3_slotOf a0 (h 10 (((FX5_firstPart_t a0 (h 18 (a0.toNatClampNeg)) h) + 1).toNatClampNeg))) (FX3_slotOf a0 (h 10 (((FX5_firstPart_t a0 (h 18 (a0.toNatClampNeg)) h) + 2).toNatClampNeg))) h I (iv_w (c := 0) (d := 27) s4.2 rfl) (iv_w (c := 0) (d := 27) s5.2 rfl)
    refine sf_n s36.1 ?_
    exact ⟨trivial, QC_mk (iv_w (c := 0) (d := 19) s36.2.1 rfl) s36.2.2⟩
  refine sf_if (fun c37 => ?_) (fun c37 => ?_)
  · have f38 : iv 9 9 (h 10 ((FX5_firstPart_t a0 (h 18 (a0.toNatClampNeg)) h).toNatClampNeg)) := iv_eql (iv_any (h 10 ((FX5_firstPart_t a0 (h 18 (a0.toNatClampNeg)) h).toNatClampNeg))) (iv_lit (lo := 9) (hi := 9) (x := 9) rfl) c37 rfl
    have s39 := SX3_readRow_s (z := z) (FX3_slotOf a0 (h 10 (((FX5_firstPart_t a0 (h 18 (a0.toNatClampNeg)) h) + 1).toNatClampNeg))) (FX3_slotOf a0 (h 10 (((FX5_firstPart_t a0 (h 18 (a0.toNatClampNeg)) h) + 2).toNatClampNeg))) (FX3_slotOf a0 (h 10 (((FX5_firstPart_t a0 (h 18 (a0.toNatClampNeg)) h) + 3).toNatClampNeg))) h I (iv_w (c := 0) (d := 27) s4.2 rfl) (iv_w (c := 0) (d := 27) s5.2 rfl) (iv_w (c := 0) (d := 27) s7.2 rfl)
    refine sf_n s39.1 ?_
    exact ⟨trivial, QC_mk (iv_w (c := 0) (d := 19) s39.2.1 rfl) s39.2.2⟩
  refine sf_if (fun c40 => ?_) (fun c40 => ?_)
  · have f41 : iv 10 10 (h 10 ((FX5_firstPart_t a0 (h 18 (a0.toNatClampNeg)) h).toNatClampNeg)) := iv_eql (iv_any (h 10 ((FX5_firstPart_t a0 (h 18 (a0.toNatClampNeg)) h).toNatClampNeg))) (iv_lit (lo := 10) (hi := 10) (x := 10) rfl) c40 rfl
    have s42 := SX3_writeRow_s (z := z) (FX3_slotOf a0 (h 10 (((FX5_firstPart_t a0 (h 18 (a0.toNatClampNeg)) h) + 1).toNatClampNeg))) (FX3_slotOf a0 (h 10 (((FX5_firstPart_t a0 (h 18 (a0.toNatClampNeg)) h) + 2).toNatClampNeg))) (FX3_slotOf a0 (h 10 (((FX5_firstPart_t a0 (h 18 (a0.toNatClampNeg)) h) + 3).toNatClampNeg))) h I (iv_w (c := 0) (d := 27) s4.2 rfl) (iv_w (c := 0) (d := 27) s5.2 rfl) (iv_w (c := 0) (d := 27) s7.2 rfl)
    refine sf_n s42.1 ?_
    exact ⟨trivial, QC_mk (iv_w (c := 0) (d := 19) s42.2.1 rfl) s42.2.2⟩
  refine sf_if (fun c43 => ?_) (fun c43 => ?_)
  · have f44 : iv 11 11 (h 10 ((FX5_firstPart_t a0 (h 18 (a0.toNatClampNeg)) h).toNatClampNeg)) := iv_eql (iv_any (h 10 ((FX5_firstPart_t a0 (h 18 (a0.toNatClampNeg)) h).toNatClampNeg))) (iv_lit (lo := 11) (hi := 11) (x := 11) rfl) c43 rfl
    refine sf_if (fun c45 => ?_) (fun c45 => ?_)
    · have f46 : iv 0 0 ((h 10 (((FX5_firstPart_t a0 (h 18 (a0.toNatClampNeg)) h) + 2).toNatClampNeg)) &&& 1) := iv_eql (iv_any ((h 10 (((FX5_firstPart_t a0 (h 18 (a0.toNatClampNeg)) h) + 2).toNatClampNeg)) &&& 1)) (iv_lit (lo := 0) (hi := 0) (x := 0) rfl) c45 rfl
      unfold PX3_perform_s_288 FX3_perform_s_288
      have s47 := SX3_makeLock_s (z := z) (FX3_slotOf a0 (h 10 (((FX5_firstPart_t a0 (h 18 (a0.toNatClampNeg)) h) + 1).toNatClampNeg))) 0 h I (iv_w (c := 0) (d := 27) s4.2 rfl) (iv_w (c := 0) (d := 1) (iv_lit (lo := 0) (hi := 0) (x := 0) rfl) rfl)
      refine sf_n s47.1 ?_
      exact ⟨trivial, QC_mk (iv_w (c := 0) (d := 19) s47.2.1 rfl) s47.2.2⟩
    · unfold PX3_perform_s_288 FX3_perform_s_288
      have s48 := SX3_makeLock_s (z := z) (FX3_slotOf a0 (h 10 (((FX5_firstPart_t a0 (h 18 (a0.toNatClampNeg)) h) + 1).toNatClampNeg))) 1 h I (iv_w (c := 0) (d := 27) s4.2 rfl) (iv_w (c := 0) (d := 1) (iv_lit (lo := 1) (hi := 1) (x := 1) rfl) rfl)
      refine sf_n s48.1 ?_
      exact ⟨trivial, QC_mk (iv_w (c := 0) (d := 19) s48.2.1 rfl) s48.2.2⟩
  refine sf_if (fun c49 => ?_) (fun c49 => ?_)
  · have f50 : iv 12 12 (h 10 ((FX5_firstPart_t a0 (h 18 (a0.toNatClampNeg)) h).toNatClampNeg)) := iv_eql (iv_any (h 10 ((FX5_firstPart_t a0 (h 18 (a0.toNatClampNeg)) h).toNatClampNeg))) (iv_lit (lo := 12) (hi := 12) (x := 12) rfl) c49 rfl
    have s51 := SX3_takeLock_s (z := z) a0 (FX3_slotOf a0 (h 10 (((FX5_firstPart_t a0 (h 18 (a0.toNatClampNeg)) h) + 1).toNatClampNeg))) h I f_a0 (iv_w (c := 0) (d := 27) s4.2 rfl)
    refine sf_n s51.1 ?_
    exact ⟨trivial, QC_mk (iv_w (c := 0) (d := 19) s51.2.1 rfl) s51.2.2⟩
  refine sf_if (fun c52 => ?_) (fun c52 => ?_)
  · have f53 : iv 13 13 (h 10 ((FX5_firstPart_t a0 (h 18 (a0.toNatClampNeg)) h).toNatClampNeg)) := iv_eql (iv_any (h 10 ((FX5_firstPart_t a0 (h 18 (a0.toNatClampNeg)) h).toNatClampNeg))) (iv_lit (lo := 13) (hi := 13) (x := 13) rfl) c52 rfl
    have s54 := SX3_leaveLock_s (z := z) a0 (FX3_slotOf a0 (h 10 (((FX5_firstPart_t a0 (h 18 (a0.toNatClampNeg)) h) + 1).toNatClampNeg))) h I (iv_w (c := 0) (d := 27) s4.2 rfl)
    refine sf_n s54.1 ?_
    exact ⟨trivial, QC_mk (iv_w (c := 0) (d := 19) s54.2.1 rfl) s54.2.2⟩
  refine sf_if (fun c55 => ?_) (fun c55 => ?_)
  · have f56 : iv 14 14 (h 10 ((FX5_firstPart_t a0 (h 18 (a0.toNatClampNeg)) h).toNatClampNeg)) := iv_eql (iv_any (h 10 ((FX5_firstPart_t a0 (h 18 (a0.toNatClampNeg)) h).toNatClampNeg))) (iv_lit (lo := 14) (hi := 14) (x := 14) rfl) c55 rfl
    have s57 := SX3_lieDown_s (z := z) a0 (FX3_slotOf a0 (h 10 (((FX5_firstPart_t a0 (h 18 (a0.toNatClampNeg)) h) + 1).toNatClampNeg))) h I f_a0 (iv_w (c := 0) (d := 27) s4.2 rfl)
    refine sf_n s57.1 ?_
    exact ⟨trivial, QC_mk (iv_w (c := 0) (d := 19) s57.2.1 rfl) s57.2.2⟩
  refine sf_if (fun c58 => ?_) (fun c58 => ?_)
  · have f59 : iv 15 15 (h 10 ((FX5_firstPart_t a0 (h 18 (a0.toNatClampNeg)) h).toNatClampNeg)) := iv_eql (iv_any (h 10 ((FX5_firstPart_t a0 (h 18 (a0.toNatClampNeg)) h).toNatClampNeg))) (iv_lit (lo := 15) (hi := 15) (x := 15) rfl) c58 rfl
    have s60 := SX3_wakeSleepers_s (z := z) a0 (FX3_slotOf a0 (h 10 (((FX5_firstPart_t a0 (h 18 (a0.toNatClampNeg)) h) + 1).toNatClampNeg))) h I (iv_w (c := 0) (d := 27) s4.2 rfl)
    refine sf_n s60.1 ?_
    exact ⟨trivial, QC_mk (iv_w (c := 0) (d := 19) s60.2.1 rfl) s60.2.2⟩
  refine sf_if (fun c61 => ?_) (fun c61 => ?_)
  · have f62 : iv 16 16 (h 10 ((FX5_firstPart_t a0 (h 18 (a0.toNatClampNeg)) h).toNatClampNeg)) := iv_eql (iv_any (h 10 ((FX5_firstPart_t a0 (h 18 (a0.toNatClampNeg)) h).toNatClampNeg))) (iv_lit (lo := 16) (hi := 16) (x := 16) rfl) c61 rfl
    have s63 := SX3_takeInput_s (z := z) (FX3_slotOf a0 (h 10 (((FX5_firstPart_t a0 (h 18 (a0.toNatClampNeg)) h) + 1).toNatClampNeg))) h I (iv_w (c := 0) (d := 27) s4.2 rfl)
    refine sf_n s63.1 ?_
    exact ⟨trivial, QC_mk (iv_w (c := 0) (d := 19) s63.2.1 rfl) s63.2.2⟩
  refine sf_if (fun c64 => ?_) (fun c64 => ?_)
  · have f65 : iv 17 17 (h 10 ((FX5_firstPart_t a0 (h 18 (a0.toNatClampNeg)) h).toNatClampNeg)) := iv_eql (iv_any (h 10 ((FX5_firstPart_t a0 (h 18 (a0.toNatClampNeg)) h).toNatClampNeg))) (iv_lit (lo := 17) (hi := 17) (x := 17) rfl) c64 rfl
    refine sf_n (fmod_p (m := 4) (by decide) (by decide)) ?_
    have f66 : iv 0 3 (FJ9_floorMod_7cf53 (h 10 (((FX5_firstPart_t a0 (h 18 (a0.toNatClampNeg)) h) + 1).toNatClampNeg)) 4) := fmod_iv (m := 4) rfl
    have s67 := SX3_startThread_s (z := z) (FJ9_floorMod_7cf53 (h 10 (((FX5_firstPart_t a0 (h 18 (a0.toNatClampNeg)) h) + 1).toNatClampNeg)) 4) h I f66
    refine sf_n s67.1 ?_
    exact ⟨trivial, QC_mk (iv_w (c := 0) (d := 19) s67.2.1 rfl) s67.2.2⟩
  refine sf_if (fun c68 => ?_) (fun c68 => ?_)
  · have f69 : iv 18 18 (h 10 ((FX5_firstPart_t a0 (h 18 (a0.toNatClampNeg)) h).toNatClampNeg)) := iv_eql (iv_any (h 10 ((FX5_firstPart_t a0 (h 18 (a0.toNatClampNeg)) h).toNatClampNeg))) (iv_lit (lo := 18) (hi := 18) (x := 18) rfl) c68 rfl
    refine sf_n (fmod_p (m := 10) (by decide) (by decide)) ?_
    have f70 : iv 0 9 (FJ9_floorMod_7cf53 (h 10 (((FX5_firstPart_t a0 (h 18 (a0.toNatClampNeg)) h) + 2).toNatClampNeg)) 10) := fmod_iv (m := 10) rfl
    have f71 : iv 10 19 (10 + (FJ9_floorMod_7cf53 (h 10 (((FX5_firstPart_t a0 (h 18 (a0.toNatClampNeg)) h) + 2).toNatClampNeg)) 10)) := iv_add (iv_lit (lo := 10) (hi := 10) (x := 10) rfl) f70 rfl
    exact ⟨trivial, QC_mk (iv_w (c := 0) (d := 19) f71 rfl) I⟩
  have s72 := SX3_goTo_s (z := z) 24 h I
  refine sf_n s72.1 ?_
  exact ⟨trivial, QC_mk (iv_w (c := 0) (d := 19) s72.2.1 rfl) s72.2.2⟩

-- X3_rise_s
set_option maxRecDepth 100000 in
set_option maxHeartbeats 4000000 in
theorem SX3_rise_s {z : zT} (a0 : Int32) (h : ph_H) (I : IC z h) (f_a0 : iv 0 3 a0) : PX3_rise_s a0 h ∧ QC z 0 0 (FX3_rise_s a0 h) := by
  unfold PX3_rise_s FX3_rise_s
  refine sf_n (iv_in f_a0 rfl) ?_
  have I1 : IC z (hs h 19 a0.toNatClampNeg 1) := ICs I (k := 19) (i := a0.toNatClampNeg) (v := 1) (iv_any 1) rfl
  refine sf_n (iv_in f_a0 rfl) ?_
  have f2 : iv 0 11 (h 20 (a0.toNatClampNeg)) := ICv I 20 _
  have s3 := SX3_own_s (z := z) a0 (h 20 (a0.toNatClampNeg)) (hs h 19 a0.toNatClampNeg 1) I1 f2
  refine sf_n s3.1 ?_
  exact ⟨trivial, QC_mk s3.2.1 s3.2.2⟩

-- X3_nextInstruction_s
set_option maxRecDepth 100000 in
set_option maxHeartbeats 4000000 in
theorem SX3_nextInstruction_s {z : zT} (a0 : Int32) (h : ph_H) (I : IC z h) (f_a0 : iv 0 3 a0) : PX3_nextInstruction_s a0 h ∧ iv 0 24 (FX3_nextInstruction_s a0 h) := by
  unfold PX3_nextInstruction_s FX3_nextInstruction_s
  have s1 := SX3_hasEnded_s (z := z) a0 h I f_a0
  refine sf_n s1.1 ?_
  refine sf_if (fun c2 => ?_) (fun c2 => ?_)
  · have f3 : iv 0 23 (h 18 (a0.toNatClampNeg)) := iv_and (iv_any _) (s1.2.2 c2) rfl
    have f4 : iv 0 0 (FX3_hasEnded_s a0 h) := iv_eql s1.2.1 (iv_lit (lo := 0) (hi := 0) (x := 0) rfl) c2 rfl
    refine sf_n (iv_in f_a0 rfl) ?_
    exact ⟨trivial, (iv_w (c := 0) (d := 24) f3 rfl)⟩
  · have f5 : iv 1 1 (FX3_hasEnded_s a0 h) := iv_nel s1.2.1 c2 rfl
    exact ⟨trivial, (iv_w (c := 0) (d := 24) (iv_lit (lo := 24) (hi := 24) (x := 24) rfl) rfl)⟩

-- X5_opOf_t
set_option maxRecDepth 100000 in
set_option maxHeartbeats 4000000 in
theorem SX5_opOf_t {z : zT} (a0 : Int32) (a1 : Int32) (h : ph_H) (I : IC z h) (f_a0 : iv 0 3 a0) : PX5_opOf_t a0 a1 h ∧ iv (-2147483648) 2147483647 (FX5_opOf_t a0 a1 h) := by
  unfold PX5_opOf_t FX5_opOf_t
  have s1 := SX5_has_t (z := z) a0 a1 h I f_a0
  refine sf_n s1.1 ?_
  refine sf_if (fun c2 => ?_) (fun c2 => ?_)
  · have f3 : iv 0 0 (FX5_has_t a0 a1 h) := iv_eql s1.2.1 (iv_lit (lo := 0) (hi := 0) (x := 0) rfl) c2 rfl
    exact ⟨trivial, (iv_any 19)⟩
  · have f4 : iv 0 23 a1 := iv_and (iv_any _) (s1.2.2 c2) rfl
    have f5 : iv 1 1 (FX5_has_t a0 a1 h) := iv_nel s1.2.1 c2 rfl
    have s6 := SX5_firstPart_t (z := z) a0 a1 h I f_a0 f4
    refine sf_n s6.1 ?_
    refine sf_n (iv_in s6.2 rfl) ?_
    exact ⟨trivial, (iv_any (h 10 ((FX5_firstPart_t a0 a1 h).toNatClampNeg)))⟩

-- X3_whoGoes_s
set_option maxRecDepth 100000 in
set_option maxHeartbeats 4000000 in
theorem SX3_whoGoes_s_21 {z : zT} : ∀ (q : Nat) (x2 : Int32) (h : ph_H), IC z h → iv 0 4 x2 → 4 - (x2).toInt < ((q : Nat) : Int) → PX3_whoGoes_s_21  q x2 h ∧ iv (-1) 3 (FX3_whoGoes_s_21  q x2 h) := by
  intro q
  induction q with
  | zero =>
    intro x2 h I f_x2 mq
    exact mu_zu f_x2 mq rfl
  | succ q ih =>
    intro x2 h I f_x2 mq
    unfold PX3_whoGoes_s_21 FX3_whoGoes_s_21
    refine sf_if (fun c1 => ?_) (fun c1 => ?_)
    · have f2 : iv 4 4 x2 := iv_ler f_x2 (iv_lit (lo := 4) (hi := 4) (x := 4) rfl) c1 rfl
      exact ⟨trivial, (iv_w (c := (-1)) (d := 3) (iv_lit (lo := (-1)) (hi := (-1)) (x := (-1)) rfl) rfl)⟩
    · have f3 : iv 0 3 x2 := iv_ltl f_x2 (iv_lit (lo := 4) (hi := 4) (x := 4) rfl) (nle c1) rfl
      have s4 := SX3_canGo_s (z := z) x2 h I f3
      refine sf_n s4.1 ?_
      refine sf_if (fun c5 => ?_) (fun c5 => ?_)
      · have f6 : iv 0 0 (FX3_canGo_s x2 h) := iv_eql s4.2.1 (iv_lit (lo := 0) (hi := 0) (x := 0) rfl) c5 rfl
        have f7 : iv 1 4 (x2 + 1) := iv_add f3 (iv_lit (lo := 1) (hi := 1) (x := 1) rfl) rfl
        exact ih (x2 + 1) h I (iv_w (c := 0) (d := 4) f7 rfl) (mu_up f3 mq rfl)
      · have f8 : iv 0 23 (h 18 (x2.toNatClampNeg)) := iv_and (iv_any _) (s4.2.2 c5) rfl
        have f9 : iv 1 1 (FX3_canGo_s x2 h) := iv_nel s4.2.1 c5 rfl
        exact ⟨trivial, (iv_w (c := (-1)) (d := 3) f3 rfl)⟩
set_option maxRecDepth 100000 in
set_option maxHeartbeats 4000000 in
theorem SX3_whoGoes_s {z : zT} (a0 : Int32) (h : ph_H) (I : IC z h) : PX3_whoGoes_s a0 h ∧ iv (-1) 3 (FX3_whoGoes_s a0 h) := by
  unfold PX3_whoGoes_s FX3_whoGoes_s
  refine sf_if (fun c1 => ?_) (fun c1 => ?_)
  · have f2 : iv (-2147483648) (-1) a0 := iv_ltl (iv_any a0) (iv_lit (lo := 0) (hi := 0) (x := 0) rfl) c1 rfl
    unfold PX3_whoGoes_s_19 FX3_whoGoes_s_19
    exact SX3_whoGoes_s_21 2000 0 h I (iv_w (c := 0) (d := 4) (iv_lit (lo := 0) (hi := 0) (x := 0) rfl) rfl) (mu_0u (iv_lit (lo := 0) (hi := 0) (x := 0) rfl) rfl)
  · have f3 : iv 0 2147483647 a0 := iv_ler (iv_any a0) (iv_lit (lo := 0) (hi := 0) (x := 0) rfl) (nlt c1) rfl
    refine sf_if (fun c4 => ?_) (fun c4 => ?_)
    · have f5 : iv 4 2147483647 a0 := iv_ler f3 (iv_lit (lo := 4) (hi := 4) (x := 4) rfl) c4 rfl
      unfold PX3_whoGoes_s_19 FX3_whoGoes_s_19
      exact SX3_whoGoes_s_21 2000 0 h I (iv_w (c := 0) (d := 4) (iv_lit (lo := 0) (hi := 0) (x := 0) rfl) rfl) (mu_0u (iv_lit (lo := 0) (hi := 0) (x := 0) rfl) rfl)
    · have f6 : iv 0 3 a0 := iv_ltl f3 (iv_lit (lo := 4) (hi := 4) (x := 4) rfl) (nle c4) rfl
      have s7 := SX3_canGo_s (z := z) a0 h I f6
      refine sf_n s7.1 ?_
      refine sf_if (fun c8 => ?_) (fun c8 => ?_)
      · have f9 : iv 0 0 (FX3_canGo_s a0 h) := iv_eql s7.2.1 (iv_lit (lo := 0) (hi := 0) (x := 0) rfl) c8 rfl
        unfold PX3_whoGoes_s_19 FX3_whoGoes_s_19
        exact SX3_whoGoes_s_21 2000 0 h I (iv_w (c := 0) (d := 4) (iv_lit (lo := 0) (hi := 0) (x := 0) rfl) rfl) (mu_0u (iv_lit (lo := 0) (hi := 0) (x := 0) rfl) rfl)
      · have f10 : iv 0 23 (h 18 (a0.toNatClampNeg)) := iv_and (iv_any _) (s7.2.2 c8) rfl
        have f11 : iv 1 1 (FX3_canGo_s a0 h) := iv_nel s7.2.1 c8 rfl
        exact ⟨trivial, (iv_w (c := (-1)) (d := 3) f6 rfl)⟩

-- X3_allStartedHaveEnded_s
set_option maxRecDepth 100000 in
set_option maxHeartbeats 4000000 in
theorem SX3_allStartedHaveEnded_s_2 {z : zT} : ∀ (q : Nat) (x1 : Int32) (h : ph_H), IC z h → iv 0 4 x1 → 4 - (x1).toInt < ((q : Nat) : Int) → PX3_allStartedHaveEnded_s_2  q x1 h ∧ iv 0 1 (FX3_allStartedHaveEnded_s_2  q x1 h) := by
  intro q
  induction q with
  | zero =>
    intro x1 h I f_x1 mq
    exact mu_zu f_x1 mq rfl
  | succ q ih =>
    intro x1 h I f_x1 mq
    unfold PX3_allStartedHaveEnded_s_2 FX3_allStartedHaveEnded_s_2
    refine sf_if (fun c1 => ?_) (fun c1 => ?_)
    · have f2 : iv 4 4 x1 := iv_ler f_x1 (iv_lit (lo := 4) (hi := 4) (x := 4) rfl) c1 rfl
      exact ⟨trivial, (iv_w (c := 0) (d := 1) (iv_lit (lo := 1) (hi := 1) (x := 1) rfl) rfl)⟩
    · have f3 : iv 0 3 x1 := iv_ltl f_x1 (iv_lit (lo := 4) (hi := 4) (x := 4) rfl) (nle c1) rfl
      refine sf_n (iv_in f3 rfl) ?_
      refine sf_if (fun c4 => ?_) (fun c4 => ?_)
      · have f5 : iv 0 0 (h 19 (x1.toNatClampNeg)) := iv_eql (iv_any (h 19 (x1.toNatClampNeg))) (iv_lit (lo := 0) (hi := 0) (x := 0) rfl) c4 rfl
        unfold PX3_allStartedHaveEnded_s_26 FX3_allStartedHaveEnded_s_26
        have f6 : iv 1 4 (x1 + 1) := iv_add f3 (iv_lit (lo := 1) (hi := 1) (x := 1) rfl) rfl
        exact ih (x1 + 1) h I (iv_w (c := 0) (d := 4) f6 rfl) (mu_up f3 mq rfl)
      · have s7 := SX3_hasEnded_s (z := z) x1 h I f3
        refine sf_n s7.1 ?_
        refine sf_if (fun c8 => ?_) (fun c8 => ?_)
        · have f9 : iv 0 23 (h 18 (x1.toNatClampNeg)) := iv_and (iv_any _) (s7.2.2 c8) rfl
          have f10 : iv 0 0 (FX3_hasEnded_s x1 h) := iv_eql s7.2.1 (iv_lit (lo := 0) (hi := 0) (x := 0) rfl) c8 rfl
          exact ⟨trivial, (iv_w (c := 0) (d := 1) (iv_lit (lo := 0) (hi := 0) (x := 0) rfl) rfl)⟩
        · have f11 : iv 1 1 (FX3_hasEnded_s x1 h) := iv_nel s7.2.1 c8 rfl
          unfold PX3_allStartedHaveEnded_s_26 FX3_allStartedHaveEnded_s_26
          have f12 : iv 1 4 (x1 + 1) := iv_add f3 (iv_lit (lo := 1) (hi := 1) (x := 1) rfl) rfl
          exact ih (x1 + 1) h I (iv_w (c := 0) (d := 4) f12 rfl) (mu_up f3 mq rfl)
set_option maxRecDepth 100000 in
set_option maxHeartbeats 4000000 in
theorem SX3_allStartedHaveEnded_s {z : zT} (h : ph_H) (I : IC z h) : PX3_allStartedHaveEnded_s h ∧ iv 0 1 (FX3_allStartedHaveEnded_s h) := by
  unfold PX3_allStartedHaveEnded_s FX3_allStartedHaveEnded_s
  exact SX3_allStartedHaveEnded_s_2 2000 0 h I (iv_w (c := 0) (d := 4) (iv_lit (lo := 0) (hi := 0) (x := 0) rfl) rfl) (mu_0u (iv_lit (lo := 0) (hi := 0) (x := 0) rfl) rfl)

-- X10_howOver_s
set_option maxRecDepth 100000 in
set_option maxHeartbeats 4000000 in
theorem SX10_howOver_s {z : zT} (h : ph_H) (I : IC z h) : PX10_howOver_s h ∧ iv 0 3 (FX10_howOver_s h) := by
  unfold PX10_howOver_s FX10_howOver_s
  refine sf_if (fun c1 => ?_) (fun c1 => ?_)
  · have f2 : iv 0 0 (h 35 14) := iv_eql (iv_any (h 35 14)) (iv_lit (lo := 0) (hi := 0) (x := 0) rfl) c1 rfl
    have s3 := SX3_whoGoes_s (z := z) 0 h I
    refine sf_n s3.1 ?_
    refine sf_if (fun c4 => ?_) (fun c4 => ?_)
    · have f5 : iv (-1) (-1) (FX3_whoGoes_s 0 h) := iv_ltl s3.2 (iv_lit (lo := 0) (hi := 0) (x := 0) rfl) c4 rfl
      have s6 := SX3_allStartedHaveEnded_s (z := z) h I
      refine sf_n s6.1 ?_
      refine sf_if (fun c7 => ?_) (fun c7 => ?_)
      · have f8 : iv 0 0 (FX3_allStartedHaveEnded_s h) := iv_eql s6.2 (iv_lit (lo := 0) (hi := 0) (x := 0) rfl) c7 rfl
        exact ⟨trivial, (iv_w (c := 0) (d := 3) (iv_lit (lo := 1) (hi := 1) (x := 1) rfl) rfl)⟩
      · have f9 : iv 1 1 (FX3_allStartedHaveEnded_s h) := iv_nel s6.2 c7 rfl
        exact ⟨trivial, (iv_w (c := 0) (d := 3) (iv_lit (lo := 0) (hi := 0) (x := 0) rfl) rfl)⟩
    · have f10 : iv 0 3 (FX3_whoGoes_s 0 h) := iv_ler s3.2 (iv_lit (lo := 0) (hi := 0) (x := 0) rfl) (nlt c4) rfl
      exact ⟨trivial, (iv_w (c := 0) (d := 3) (iv_lit (lo := 3) (hi := 3) (x := 3) rfl) rfl)⟩
  · exact ⟨trivial, (iv_w (c := 0) (d := 3) (iv_lit (lo := 2) (hi := 2) (x := 2) rfl) rfl)⟩

-- J7_fill_53178_k18
set_option maxRecDepth 100000 in
set_option maxHeartbeats 4000000 in
theorem SJ7_fill_53178_k18_5 {z : zT} : ∀ (q : Nat) (x1 : Int32) (x2 : Int32) (x3 : Int32) (h : ph_H), IC z h → iv 0 4 x2 → iv 4 4 x3 → 4 - (x2).toInt < ((q : Nat) : Int) → PJ7_fill_53178_k18_5  q x1 x2 x3 h ∧ IC z (FJ7_fill_53178_k18_5  q x1 x2 x3 h) := by
  intro q
  induction q with
  | zero =>
    intro x1 x2 x3 h I f_x2 f_x3 mq
    exact mu_zu f_x2 mq rfl
  | succ q ih =>
    intro x1 x2 x3 h I f_x2 f_x3 mq
    unfold PJ7_fill_53178_k18_5 FJ7_fill_53178_k18_5
    refine sf_if (fun c1 => ?_) (fun c1 => ?_)
    · have f2 : iv 4 4 x2 := iv_ler f_x2 f_x3 c1 rfl
      exact ⟨trivial, I⟩
    · have f3 : iv 0 3 x2 := iv_ltl f_x2 f_x3 (nle c1) rfl
      refine sf_n (iv_in f3 rfl) ?_
      have I4 : IC z (hs h 18 x2.toNatClampNeg x1) := ICs I (k := 18) (i := x2.toNatClampNeg) (v := x1) (iv_any x1) rfl
      have f5 : iv 1 4 (x2 + 1) := iv_add f3 (iv_lit (lo := 1) (hi := 1) (x := 1) rfl) rfl
      exact ih x1 (x2 + 1) x3 (hs h 18 x2.toNatClampNeg x1) I4 (iv_w (c := 0) (d := 4) f5 rfl) f_x3 (mu_up f3 mq rfl)
set_option maxRecDepth 100000 in
set_option maxHeartbeats 4000000 in
theorem SJ7_fill_53178_k18 {z : zT} (a1 : Int32) (h : ph_H) (I : IC z h) : PJ7_fill_53178_k18 a1 h ∧ IC z (FJ7_fill_53178_k18 a1 h) := by
  unfold PJ7_fill_53178_k18 FJ7_fill_53178_k18
  exact SJ7_fill_53178_k18_5 2000 a1 0 4 h I (iv_w (c := 0) (d := 4) (iv_lit (lo := 0) (hi := 0) (x := 0) rfl) rfl) (iv_lit (lo := 4) (hi := 4) (x := 4) rfl) (mu_0u (iv_lit (lo := 0) (hi := 0) (x := 0) rfl) rfl)

-- J7_fill_53178_k19
set_option maxRecDepth 100000 in
set_option maxHeartbeats 4000000 in
theorem SJ7_fill_53178_k19_5 {z : zT} : ∀ (q : Nat) (x1 : Int32) (x2 : Int32) (x3 : Int32) (h : ph_H), IC z h → iv 0 4 x2 → iv 4 4 x3 → 4 - (x2).toInt < ((q : Nat) : Int) → PJ7_fill_53178_k19_5  q x1 x2 x3 h ∧ IC z (FJ7_fill_53178_k19_5  q x1 x2 x3 h) := by
  intro q
  induction q with
  | zero =>
    intro x1 x2 x3 h I f_x2 f_x3 mq
    exact mu_zu f_x2 mq rfl
  | succ q ih =>
    intro x1 x2 x3 h I f_x2 f_x3 mq
    unfold PJ7_fill_53178_k19_5 FJ7_fill_53178_k19_5
    refine sf_if (fun c1 => ?_) (fun c1 => ?_)
    · have f2 : iv 4 4 x2 := iv_ler f_x2 f_x3 c1 rfl
      exact ⟨trivial, I⟩
    · have f3 : iv 0 3 x2 := iv_ltl f_x2 f_x3 (nle c1) rfl
      refine sf_n (iv_in f3 rfl) ?_
      have I4 : IC z (hs h 19 x2.toNatClampNeg x1) := ICs I (k := 19) (i := x2.toNatClampNeg) (v := x1) (iv_any x1) rfl
      have f5 : iv 1 4 (x2 + 1) := iv_add f3 (iv_lit (lo := 1) (hi := 1) (x := 1) rfl) rfl
      exact ih x1 (x2 + 1) x3 (hs h 19 x2.toNatClampNeg x1) I4 (iv_w (c := 0) (d := 4) f5 rfl) f_x3 (mu_up f3 mq rfl)
set_option maxRecDepth 100000 in
set_option maxHeartbeats 4000000 in
theorem SJ7_fill_53178_k19 {z : zT} (a1 : Int32) (h : ph_H) (I : IC z h) : PJ7_fill_53178_k19 a1 h ∧ IC z (FJ7_fill_53178_k19 a1 h) := by
  unfold PJ7_fill_53178_k19 FJ7_fill_53178_k19
  exact SJ7_fill_53178_k19_5 2000 a1 0 4 h I (iv_w (c := 0) (d := 4) (iv_lit (lo := 0) (hi := 0) (x := 0) rfl) rfl) (iv_lit (lo := 4) (hi := 4) (x := 4) rfl) (mu_0u (iv_lit (lo := 0) (hi := 0) (x := 0) rfl) rfl)

-- X4_forget
set_option maxRecDepth 100000 in
set_option maxHeartbeats 4000000 in
theorem SX4_forget {z : zT} (h : ph_H) (I : IC z h) : PX4_forget h ∧ IC z (FX4_forget h) := by
  unfold PX4_forget FX4_forget
  have I1 : IC z (hs h 47 6 0) := ICs I (k := 47) (i := 6) (v := 0) (iv_w (c := 0) (d := 1) (iv_lit (lo := 0) (hi := 0) (x := 0) rfl) rfl) rfl
  exact ⟨trivial, I1⟩

-- X5_become_tn
set_option maxRecDepth 100000 in
set_option maxHeartbeats 4000000 in
theorem SX5_become_tn {z : zT} (h : ph_H) (I : IC z h) : PX5_become_tn h ∧ IC z (FX5_become_tn h) := by
  unfold PX5_become_tn FX5_become_tn
  refine sf_n (cpok_iv (iv_lit (lo := 0) (hi := 0) (x := 0) rfl) (iv_lit (lo := 0) (hi := 0) (x := 0) rfl) (iv_lit (lo := 4) (hi := 4) (x := 4) rfl) rfl) ?_
  have I1 : IC z (hc h 2 9 0 0 4) := ICcp I (k0 := 2) (k1 := 9) (fun _ => rfl) (fun _ => rfl) (fun _ => rfl)
  refine sf_n (cpok_iv (iv_lit (lo := 0) (hi := 0) (x := 0) rfl) (iv_lit (lo := 0) (hi := 0) (x := 0) rfl) (iv_lit (lo := 384) (hi := 384) (x := 384) rfl) rfl) ?_
  have I2 : IC z (hc (hc h 2 9 0 0 4) 3 10 0 0 384) := ICcp I1 (k0 := 3) (k1 := 10) (fun _ => rfl) (fun _ => rfl) (fun _ => rfl)
  refine sf_n (cpok_iv (iv_lit (lo := 0) (hi := 0) (x := 0) rfl) (iv_lit (lo := 0) (hi := 0) (x := 0) rfl) (iv_lit (lo := 12) (hi := 12) (x := 12) rfl) rfl) ?_
  have I3 : IC z (hc (hc (hc h 2 9 0 0 4) 3 10 0 0 384) 4 11 0 0 12) := ICcp I2 (k0 := 4) (k1 := 11) (fun _ => rfl) (fun _ => rfl) (fun _ => rfl)
  refine sf_n (cpok_iv (iv_lit (lo := 0) (hi := 0) (x := 0) rfl) (iv_lit (lo := 0) (hi := 0) (x := 0) rfl) (iv_lit (lo := 30) (hi := 30) (x := 30) rfl) rfl) ?_
  have I4 : IC z (hc (hc (hc (hc h 2 9 0 0 4) 3 10 0 0 384) 4 11 0 0 12) 5 12 0 0 30) := ICcp I3 (k0 := 5) (k1 := 12) (fun _ => rfl) (fun _ => rfl) (fun _ => rfl)
  refine sf_n (cpok_iv (iv_lit (lo := 0) (hi := 0) (x := 0) rfl) (iv_lit (lo := 0) (hi := 0) (x := 0) rfl) (iv_lit (lo := 40) (hi := 40) (x := 40) rfl) rfl) ?_
  have I5 : IC z (hc (hc (hc (hc (hc h 2 9 0 0 4) 3 10 0 0 384) 4 11 0 0 12) 5 12 0 0 30) 6 13 0 0 40) := ICcp I4 (k0 := 6) (k1 := 13) (fun _ => rfl) (fun _ => rfl) (fun _ => rfl)
  refine sf_n (cpok_iv (iv_lit (lo := 0) (hi := 0) (x := 0) rfl) (iv_lit (lo := 0) (hi := 0) (x := 0) rfl) (iv_lit (lo := 40) (hi := 40) (x := 40) rfl) rfl) ?_
  have I6 : IC z (hc (hc (hc (hc (hc (hc h 2 9 0 0 4) 3 10 0 0 384) 4 11 0 0 12) 5 12 0 0 30) 6 13 0 0 40) 7 14 0 0 40) := ICcp I5 (k0 := 7) (k1 := 14) (fun _ => rfl) (fun _ => rfl) (fun _ => rfl)
  have f7 : iv 0 30 ((hc (hc (hc (hc (hc (hc h 2 9 0 0 4) 3 10 0 0 384) 4 11 0 0 12) 5 12 0 0 30) 6 13 0 0 40) 7 14 0 0 40) 1 6) := ICv I6 1 _
  have I8 : IC z (hs (hc (hc (hc (hc (hc (hc h 2 9 0 0 4) 3 10 0 0 384) 4 11 0 0 12) 5 12 0 0 30) 6 13 0 0 40) 7 14 0 0 40) 8 6 ((hc (hc (hc (hc (hc (hc h 2 9 0 0 4) 3 10 0 0 384) 4 11 0 0 12) 5 12 0 0 30) 6 13 0 0 40) 7 14 0 0 40) 1 6)) := ICs I6 (k := 8) (i := 6) (v := ((hc (hc (hc (hc (hc (hc h 2 9 0 0 4) 3 10 0 0 384) 4 11 0 0 12) 5 12 0 0 30) 6 13 0 0 40) 7 14 0 0 40) 1 6)) f7 rfl
  have f9 : iv 0 40 ((hc (hc (hc (hc (hc (hc h 2 9 0 0 4) 3 10 0 0 384) 4 11 0 0 12) 5 12 0 0 30) 6 13 0 0 40) 7 14 0 0 40) 1 7) := ICv I6 1 _
  have I10 : IC z (hs (hs (hc (hc (hc (hc (hc (hc h 2 9 0 0 4) 3 10 0 0 384) 4 11 0 0 12) 5 12 0 0 30) 6 13 0 0 40) 7 14 0 0 40) 8 6 ((hc (hc (hc (hc (hc (hc h 2 9 0 0 4) 3 10 0 0 384) 4 11 0 0 12) 5 12 0 0 30) 6 13 0 0 40) 7 14 0 0 40) 1 6)) 8 7 ((hc (hc (hc (hc (hc (hc h 2 9 0 0 4) 3 10 0 0 384) 4 11 0 0 12) 5 12 0 0 30) 6 13 0 0 40) 7 14 0 0 40) 1 7)) := ICs I8 (k := 8) (i := 7) (v := ((hc (hc (hc (hc (hc (hc h 2 9 0 0 4) 3 10 0 0 384) 4 11 0 0 12) 5 12 0 0 30) 6 13 0 0 40) 7 14 0 0 40) 1 7)) f9 rfl
  exact ⟨trivial, I10⟩

-- X11_told
set_option maxRecDepth 100000 in
set_option maxHeartbeats 4000000 in
theorem SX11_told {z : zT} (a0 : Int32) (h : ph_H) (I : IC z h) : PX11_told a0 h ∧ iv (-2147483648) 2147483647 (FX11_told a0 h) := by
  unfold PX11_told FX11_told
  have f1 : iv 0 1 (h 0 8) := ICv I 0 _
  refine sf_if (fun c2 => ?_) (fun c2 => ?_)
  · have f3 : iv 0 0 (h 0 8) := iv_eql f1 (iv_lit (lo := 0) (hi := 0) (x := 0) rfl) c2 rfl
    exact ⟨trivial, (iv_any (-2))⟩
  · have f4 : iv 1 1 (h 0 8) := iv_nel f1 c2 rfl
    refine sf_if (fun c5 => ?_) (fun c5 => ?_)
    · have f6 : iv 0 0 a0 := iv_eql (iv_any a0) (iv_lit (lo := 0) (hi := 0) (x := 0) rfl) c5 rfl
      exact ⟨trivial, (iv_any (h 35 13))⟩
    refine sf_if (fun c7 => ?_) (fun c7 => ?_)
    · have f8 : iv 1 1 a0 := iv_eql (iv_any a0) (iv_lit (lo := 1) (hi := 1) (x := 1) rfl) c7 rfl
      have f9 : iv 0 300 (h 35 11) := ICv I 35 _
      exact ⟨trivial, (iv_any (h 35 11))⟩
    refine sf_if (fun c10 => ?_) (fun c10 => ?_)
    · have f11 : iv 2 2 a0 := iv_eql (iv_any a0) (iv_lit (lo := 2) (hi := 2) (x := 2) rfl) c10 rfl
      exact ⟨trivial, (iv_any (h 35 14))⟩
    refine sf_if (fun c12 => ?_) (fun c12 => ?_)
    · have f13 : iv 3 3 a0 := iv_eql (iv_any a0) (iv_lit (lo := 3) (hi := 3) (x := 3) rfl) c12 rfl
      refine sf_if (fun c14 => ?_) (fun c14 => ?_)
      · have f15 : iv 0 0 (h 35 14) := iv_eql (iv_any (h 35 14)) (iv_lit (lo := 0) (hi := 0) (x := 0) rfl) c14 rfl
        exact ⟨trivial, (iv_any (-1))⟩
      · have s16 := SX10_latestThread (z := z) h I
        refine sf_n s16.1 ?_
        exact ⟨trivial, (iv_any (FX10_latestThread h))⟩
    refine sf_if (fun c17 => ?_) (fun c17 => ?_)
    · have f18 : iv 4 4 a0 := iv_eql (iv_any a0) (iv_lit (lo := 4) (hi := 4) (x := 4) rfl) c17 rfl
      have f19 : iv 0 12 (h 35 15) := ICv I 35 _
      exact ⟨trivial, (iv_any (h 35 15))⟩
    refine sf_if (fun c20 => ?_) (fun c20 => ?_)
    · have f21 : iv 5 5 a0 := iv_eql (iv_any a0) (iv_lit (lo := 5) (hi := 5) (x := 5) rfl) c20 rfl
      have f22 : iv 0 300 (h 35 12) := ICv I 35 _
      exact ⟨trivial, (iv_any (h 35 12))⟩
    refine sf_if (fun c23 => ?_) (fun c23 => ?_)
    · have f24 : iv 6 6 a0 := iv_eql (iv_any a0) (iv_lit (lo := 6) (hi := 6) (x := 6) rfl) c23 rfl
      have f25 : iv 0 30 (h 35 16) := ICv I 35 _
      exact ⟨trivial, (iv_any (h 35 16))⟩
    refine sf_if (fun c26 => ?_) (fun c26 => ?_)
    · have f27 : iv 7 7 a0 := iv_eql (iv_any a0) (iv_lit (lo := 7) (hi := 7) (x := 7) rfl) c26 rfl
      have f28 : iv 0 300 (h 35 12) := ICv I 35 _
      have f29 : iv 0 900 (3 * (h 35 12)) := iv_mul (c := 3) rfl f28 rfl
      have f30 : iv 0 30 (h 35 16) := ICv I 35 _
      have f31 : iv 0 120 (4 * (h 35 16)) := iv_mul (c := 4) rfl f30 rfl
      have f32 : iv 0 1020 ((3 * (h 35 12)) + (4 * (h 35 16))) := iv_add f29 f31 rfl
      exact ⟨trivial, (iv_any ((3 * (h 35 12)) + (4 * (h 35 16))))⟩
    exact ⟨trivial, (iv_any (-1))⟩

-- X11_change
set_option maxRecDepth 100000 in
set_option maxHeartbeats 4000000 in
theorem SX11_change {z : zT} (a0 : Int32) (a1 : Int32) (h : ph_H) (I : IC z h) : PX11_change a0 a1 h ∧ iv (-2147483648) 2147483647 (FX11_change a0 a1 h) := by
  unfold PX11_change FX11_change
  have f1 : iv 0 1 (h 0 8) := ICv I 0 _
  refine sf_if (fun c2 => ?_) (fun c2 => ?_)
  · have f3 : iv 0 0 (h 0 8) := iv_eql f1 (iv_lit (lo := 0) (hi := 0) (x := 0) rfl) c2 rfl
    exact ⟨trivial, (iv_any (-1))⟩
  · have f4 : iv 1 1 (h 0 8) := iv_nel f1 c2 rfl
    refine sf_if (fun c5 => ?_) (fun c5 => ?_)
    · have f6 : iv (-2147483648) (-1) a0 := iv_ltl (iv_any a0) (iv_lit (lo := 0) (hi := 0) (x := 0) rfl) c5 rfl
      exact ⟨trivial, (iv_any (-1))⟩
    · have f7 : iv 0 2147483647 a0 := iv_ler (iv_any a0) (iv_lit (lo := 0) (hi := 0) (x := 0) rfl) (nlt c5) rfl
      have f8 : iv 0 300 (h 35 12) := ICv I 35 _
      refine sf_if (fun c9 => ?_) (fun c9 => ?_)
      · exact ⟨trivial, (iv_any (-1))⟩
      · have f10 : iv 0 299 a0 := iv_ltl f7 f8 (nle c9) rfl
        have f11 : iv 1 300 (h 35 12) := iv_ltr f8 f7 (nle c9) rfl
        refine sf_if (fun c12 => ?_) (fun c12 => ?_)
        · have f13 : iv (-2147483648) (-1) a1 := iv_ltl (iv_any a1) (iv_lit (lo := 0) (hi := 0) (x := 0) rfl) c12 rfl
          exact ⟨trivial, (iv_any (-1))⟩
        · have f14 : iv 0 2147483647 a1 := iv_ler (iv_any a1) (iv_lit (lo := 0) (hi := 0) (x := 0) rfl) (nlt c12) rfl
          refine sf_if (fun c15 => ?_) (fun c15 => ?_)
          · have f16 : iv 0 1 a1 := iv_lel f14 (iv_lit (lo := 1) (hi := 1) (x := 1) rfl) c15 rfl
            refine sf_if (fun c17 => ?_) (fun c17 => ?_)
            · have f18 : iv 0 0 a1 := iv_eql f16 (iv_lit (lo := 0) (hi := 0) (x := 0) rfl) c17 rfl
              refine sf_n (iv_in f10 rfl) ?_
              exact ⟨trivial, (iv_any (h 45 (a0.toNatClampNeg)))⟩
            · have f19 : iv 1 1 a1 := iv_nel f16 c17 rfl
              refine sf_n (iv_in f10 rfl) ?_
              have f20 : iv 0 3 (h 46 (a0.toNatClampNeg)) := ICv I 46 _
              exact ⟨trivial, (iv_any (h 46 (a0.toNatClampNeg)))⟩
          · have f21 : iv 2 2147483647 a1 := iv_ltr f14 (iv_lit (lo := 1) (hi := 1) (x := 1) rfl) (nle c15) rfl
            exact ⟨trivial, (iv_any (-1))⟩

-- X11_step
set_option maxRecDepth 100000 in
set_option maxHeartbeats 4000000 in
theorem SX11_step {z : zT} (a0 : Int32) (a1 : Int32) (h : ph_H) (I : IC z h) : PX11_step a0 a1 h ∧ iv (-2147483648) 2147483647 (FX11_step a0 a1 h) := by
  unfold PX11_step FX11_step
  have f1 : iv 0 1 (h 0 8) := ICv I 0 _
  refine sf_if (fun c2 => ?_) (fun c2 => ?_)
  · have f3 : iv 0 0 (h 0 8) := iv_eql f1 (iv_lit (lo := 0) (hi := 0) (x := 0) rfl) c2 rfl
    exact ⟨trivial, (iv_any (-1))⟩
  · have f4 : iv 1 1 (h 0 8) := iv_nel f1 c2 rfl
    refine sf_if (fun c5 => ?_) (fun c5 => ?_)
    · have f6 : iv (-2147483648) 0 a0 := iv_ltl (iv_any a0) (iv_lit (lo := 1) (hi := 1) (x := 1) rfl) c5 rfl
      exact ⟨trivial, (iv_any (-1))⟩
    · have f7 : iv 1 2147483647 a0 := iv_ler (iv_any a0) (iv_lit (lo := 1) (hi := 1) (x := 1) rfl) (nlt c5) rfl
      have f8 : iv 0 300 (h 35 11) := ICv I 35 _
      refine sf_if (fun c9 => ?_) (fun c9 => ?_)
      · have f10 : iv 1 300 a0 := iv_lel f7 f8 c9 rfl
        have f11 : iv 1 300 (h 35 11) := iv_ler f8 f7 c9 rfl
        refine sf_if (fun c12 => ?_) (fun c12 => ?_)
        · have f13 : iv 0 0 a1 := iv_eql (iv_any a1) (iv_lit (lo := 0) (hi := 0) (x := 0) rfl) c12 rfl
          refine sf_n (iv_in f10 rfl) ?_
          have f14 : iv 0 3 (h 36 (a0.toNatClampNeg)) := ICv I 36 _
          exact ⟨trivial, (iv_any (h 36 (a0.toNatClampNeg)))⟩
        refine sf_if (fun c15 => ?_) (fun c15 => ?_)
        · have f16 : iv 1 1 a1 := iv_eql (iv_any a1) (iv_lit (lo := 1) (hi := 1) (x := 1) rfl) c15 rfl
          refine sf_n (iv_in f10 rfl) ?_
          exact ⟨trivial, (iv_any (h 37 (a0.toNatClampNeg)))⟩
        refine sf_if (fun c17 => ?_) (fun c17 => ?_)
        · have f18 : iv 2 2 a1 := iv_eql (iv_any a1) (iv_lit (lo := 2) (hi := 2) (x := 2) rfl) c17 rfl
          refine sf_n (iv_in f10 rfl) ?_
          exact ⟨trivial, (iv_any (h 38 (a0.toNatClampNeg)))⟩
        refine sf_if (fun c19 => ?_) (fun c19 => ?_)
        · have f20 : iv 3 3 a1 := iv_eql (iv_any a1) (iv_lit (lo := 3) (hi := 3) (x := 3) rfl) c19 rfl
          refine sf_n (iv_in f10 rfl) ?_
          exact ⟨trivial, (iv_any (h 39 (a0.toNatClampNeg)))⟩
        refine sf_if (fun c21 => ?_) (fun c21 => ?_)
        · have f22 : iv 4 4 a1 := iv_eql (iv_any a1) (iv_lit (lo := 4) (hi := 4) (x := 4) rfl) c21 rfl
          refine sf_n (iv_in f10 rfl) ?_
          exact ⟨trivial, (iv_any (h 40 (a0.toNatClampNeg)))⟩
        refine sf_if (fun c23 => ?_) (fun c23 => ?_)
        · have f24 : iv 5 5 a1 := iv_eql (iv_any a1) (iv_lit (lo := 5) (hi := 5) (x := 5) rfl) c23 rfl
          refine sf_n (iv_in f10 rfl) ?_
          have f25 : iv 0 4 (h 43 (a0.toNatClampNeg)) := ICv I 43 _
          exact ⟨trivial, (iv_any (h 43 (a0.toNatClampNeg)))⟩
        exact ⟨trivial, (iv_any (-1))⟩
      · exact ⟨trivial, (iv_any (-1))⟩

-- X5_has_n
set_option maxRecDepth 100000 in
set_option maxHeartbeats 4000000 in
theorem SX5_has_n {z : zT} (a0 : Int32) (a1 : Int32) (h : ph_H) (I : IC z h) (f_a0 : iv 0 3 a0) : PX5_has_n a0 a1 h ∧ Qc 0 1 (fun r => ¬ r = 0 → iv 0 23 a1) (FX5_has_n a0 a1 h) := by
  unfold PX5_has_n FX5_has_n
  refine sf_if (fun c1 => ?_) (fun c1 => ?_)
  · have f2 : iv (-2147483648) (-1) a1 := iv_ltl (iv_any a1) (iv_lit (lo := 0) (hi := 0) (x := 0) rfl) c1 rfl
    exact ⟨trivial, (iv_w (c := 0) (d := 1) (iv_lit (lo := 0) (hi := 0) (x := 0) rfl) rfl), fun z => absurd rfl z⟩
  · have f3 : iv 0 2147483647 a1 := iv_ler (iv_any a1) (iv_lit (lo := 0) (hi := 0) (x := 0) rfl) (nlt c1) rfl
    refine sf_if (fun c4 => ?_) (fun c4 => ?_)
    · have f5 : iv 24 2147483647 a1 := iv_ler f3 (iv_lit (lo := 24) (hi := 24) (x := 24) rfl) c4 rfl
      exact ⟨trivial, (iv_w (c := 0) (d := 1) (iv_lit (lo := 0) (hi := 0) (x := 0) rfl) rfl), fun z => absurd rfl z⟩
    · have f6 : iv 0 23 a1 := iv_ltl f3 (iv_lit (lo := 24) (hi := 24) (x := 24) rfl) (nle c4) rfl
      refine sf_n (iv_in f_a0 rfl) ?_
      have f7 : iv 0 24 (h 2 (a0.toNatClampNeg)) := ICv I 2 _
      refine sf_if (fun c8 => ?_) (fun c8 => ?_)
      · have f9 : iv 0 23 (h 2 (a0.toNatClampNeg)) := iv_lel f7 f6 c8 rfl
        exact ⟨trivial, (iv_w (c := 0) (d := 1) (iv_lit (lo := 0) (hi := 0) (x := 0) rfl) rfl), fun z => absurd rfl z⟩
      · have f10 : iv 1 24 (h 2 (a0.toNatClampNeg)) := iv_ltr f7 f6 (nle c8) rfl
        exact ⟨trivial, (iv_w (c := 0) (d := 1) (iv_lit (lo := 1) (hi := 1) (x := 1) rfl) rfl), fun _ => f6⟩

-- X3_hasEnded_oc1
set_option maxRecDepth 100000 in
set_option maxHeartbeats 4000000 in
theorem SX3_hasEnded_oc1 {z : zT} (a0 : Int32) (h : ph_H) (I : IC z h) (f_a0 : iv 0 3 a0) : PX3_hasEnded_oc1 a0 h ∧ Qc 0 1 (fun r => r = 0 → iv 0 23 (h 28 (a0.toNatClampNeg))) (FX3_hasEnded_oc1 a0 h) := by
  unfold PX3_hasEnded_oc1 FX3_hasEnded_oc1
  refine sf_n (iv_in f_a0 rfl) ?_
  have s1 := SX5_has_n (z := z) a0 (h 28 (a0.toNatClampNeg)) h I f_a0
  refine sf_n s1.1 ?_
  refine sf_if (fun c2 => ?_) (fun c2 => ?_)
  · have f3 : iv 0 0 (FX5_has_n a0 (h 28 (a0.toNatClampNeg)) h) := iv_eql s1.2.1 (iv_lit (lo := 0) (hi := 0) (x := 0) rfl) c2 rfl
    exact ⟨trivial, (iv_w (c := 0) (d := 1) (iv_lit (lo := 1) (hi := 1) (x := 1) rfl) rfl), fun z => absurd z (by decide)⟩
  · have f4 : iv 0 23 (h 28 (a0.toNatClampNeg)) := iv_and (iv_any _) (s1.2.2 c2) rfl
    have f5 : iv 1 1 (FX5_has_n a0 (h 28 (a0.toNatClampNeg)) h) := iv_nel s1.2.1 c2 rfl
    exact ⟨trivial, (iv_w (c := 0) (d := 1) (iv_lit (lo := 0) (hi := 0) (x := 0) rfl) rfl), fun _ => f4⟩

-- X3_lockIn_oc1
set_option maxRecDepth 100000 in
set_option maxHeartbeats 4000000 in
theorem SX3_lockIn_oc1 {z : zT} (a0 : Int32) (h : ph_H) (I : IC z h) (f_a0 : iv 0 27 a0) : PX3_lockIn_oc1 a0 h ∧ iv (-1) 11 (FX3_lockIn_oc1 a0 h) := by
  unfold PX3_lockIn_oc1 FX3_lockIn_oc1
  refine sf_n (iv_in f_a0 rfl) ?_
  have f1 : iv 0 3 (h 26 (a0.toNatClampNeg)) := ICv I 26 _
  refine sf_if (fun c2 => ?_) (fun c2 => ?_)
  · have f3 : iv 2 2 (h 26 (a0.toNatClampNeg)) := iv_eql f1 (iv_lit (lo := 2) (hi := 2) (x := 2) rfl) c2 rfl
    have f4 : iv 0 11 (h 27 (a0.toNatClampNeg)) := KVn_o I f3 rfl
    unfold PX3_lockIn_oc1_20 FX3_lockIn_oc1_20
    refine sf_n (iv_in f_a0 rfl) ?_
    exact ⟨trivial, (iv_w (c := (-1)) (d := 11) f4 rfl)⟩
  · refine sf_n (iv_in f_a0 rfl) ?_
    refine sf_if (fun c5 => ?_) (fun c5 => ?_)
    · have f6 : iv 3 3 (h 26 (a0.toNatClampNeg)) := iv_eql f1 (iv_lit (lo := 3) (hi := 3) (x := 3) rfl) c5 rfl
      have f7 : iv 0 11 (h 27 (a0.toNatClampNeg)) := KVn_o I f6 rfl
      unfold PX3_lockIn_oc1_20 FX3_lockIn_oc1_20
      refine sf_n (iv_in f_a0 rfl) ?_
      exact ⟨trivial, (iv_w (c := (-1)) (d := 11) f7 rfl)⟩
    · have f8 : iv 0 2 (h 26 (a0.toNatClampNeg)) := iv_nel f1 c5 rfl
      exact ⟨trivial, (iv_w (c := (-1)) (d := 11) (iv_lit (lo := (-1)) (hi := (-1)) (x := (-1)) rfl) rfl)⟩

-- X3_canGo_oc1
set_option maxRecDepth 100000 in
set_option maxHeartbeats 4000000 in
theorem SX3_canGo_oc1 {z : zT} (a0 : Int32) (h : ph_H) (I : IC z h) (f_a0 : iv 0 3 a0) : PX3_canGo_oc1 a0 h ∧ Qc 0 1 (fun r => ¬ r = 0 → iv 0 23 (h 28 (a0.toNatClampNeg))) (FX3_canGo_oc1 a0 h) := by
  unfold PX3_canGo_oc1 FX3_canGo_oc1
  refine sf_n (iv_in f_a0 rfl) ?_
  refine sf_if (fun c1 => ?_) (fun c1 => ?_)
  · have f2 : iv 0 0 (h 29 (a0.toNatClampNeg)) := iv_eql (iv_any (h 29 (a0.toNatClampNeg))) (iv_lit (lo := 0) (hi := 0) (x := 0) rfl) c1 rfl
    exact ⟨trivial, (iv_w (c := 0) (d := 1) (iv_lit (lo := 0) (hi := 0) (x := 0) rfl) rfl), fun z => absurd rfl z⟩
  · refine sf_n (iv_in f_a0 rfl) ?_
    refine sf_if (fun c3 => ?_) (fun c3 => ?_)
    · have f4 : iv 2 2 (h 29 (a0.toNatClampNeg)) := iv_eql (iv_any (h 29 (a0.toNatClampNeg))) (iv_lit (lo := 2) (hi := 2) (x := 2) rfl) c3 rfl
      exact ⟨trivial, (iv_w (c := 0) (d := 1) (iv_lit (lo := 0) (hi := 0) (x := 0) rfl) rfl), fun z => absurd rfl z⟩
    · have s5 := SX3_hasEnded_oc1 (z := z) a0 h I f_a0
      refine sf_n s5.1 ?_
      refine sf_if (fun c6 => ?_) (fun c6 => ?_)
      · have f7 : iv 0 23 (h 28 (a0.toNatClampNeg)) := iv_and (iv_any _) (s5.2.2 c6) rfl
        have f8 : iv 0 0 (FX3_hasEnded_oc1 a0 h) := iv_eql s5.2.1 (iv_lit (lo := 0) (hi := 0) (x := 0) rfl) c6 rfl
        refine sf_n (iv_in f_a0 rfl) ?_
        refine sf_if (fun c9 => ?_) (fun c9 => ?_)
        · have f10 : iv 3 3 (h 29 (a0.toNatClampNeg)) := iv_eql (iv_any (h 29 (a0.toNatClampNeg))) (iv_lit (lo := 3) (hi := 3) (x := 3) rfl) c9 rfl
          refine sf_n (iv_in f_a0 rfl) ?_
          have f11 : iv 0 11 (h 30 (a0.toNatClampNeg)) := ICv I 30 _
          refine sf_n (iv_in f11 rfl) ?_
          refine sf_if (fun c12 => ?_) (fun c12 => ?_)
          · have f13 : iv (-2) (-2) (h 33 ((h 30 (a0.toNatClampNeg)).toNatClampNeg)) := iv_eql (iv_any (h 33 ((h 30 (a0.toNatClampNeg)).toNatClampNeg))) (iv_lit (lo := (-2)) (hi := (-2)) (x := (-2)) rfl) c12 rfl
            exact ⟨trivial, (iv_w (c := 0) (d := 1) (iv_lit (lo := 1) (hi := 1) (x := 1) rfl) rfl), fun _ => f7⟩
          · exact ⟨trivial, (iv_w (c := 0) (d := 1) (iv_lit (lo := 0) (hi := 0) (x := 0) rfl) rfl), fun z => absurd rfl z⟩
        · refine sf_n (iv_in f_a0 rfl) ?_
          have s14 := SX5_firstPart_n (z := z) a0 (h 28 (a0.toNatClampNeg)) h I f_a0 f7
          refine sf_n s14.1 ?_
          refine sf_n (iv_in s14.2 rfl) ?_
          refine sf_if (fun c15 => ?_) (fun c15 => ?_)
          · have f16 : iv 12 12 (h 3 ((FX5_firstPart_n a0 (h 28 (a0.toNatClampNeg)) h).toNatClampNeg)) := iv_eql (iv_any (h 3 ((FX5_firstPart_n a0 (h 28 (a0.toNatClampNeg)) h).toNatClampNeg))) (iv_lit (lo := 12) (hi := 12) (x := 12) rfl) c15 rfl
            have f17 : iv 1 381 ((FX5_firstPart_n a0 (h 28 (a0.toNatClampNeg)) h) + 1) := iv_add s14.2 (iv_lit (lo := 1) (hi := 1) (x := 1) rfl) rfl
            refine sf_n (iv_in f17 rfl) ?_
            have s18 := SX3_slotOf a0 (h 3 (((FX5_firstPart_n a0 (h 28 (a0.toNatClampNeg)) h) + 1).toNatClampNeg)) f_a0
            refine sf_n s18.1 ?_
            have s19 := SX3_lockIn_oc1 (z := z) (FX3_slotOf a0 (h 3 (((FX5_firstPart_n a0 (h 28 (a0.toNatClampNeg)) h) + 1).toNatClampNeg))) h I (iv_w (c := 0) (d := 27) s18.2 rfl)
            refine sf_n s19.1 ?_
            refine sf_if (fun c20 => ?_) (fun c20 => ?_)
            · have f21 : iv (-1) (-1) (FX3_lockIn_oc1 (FX3_slotOf a0 (h 3 (((FX5_firstPart_n a0 (h 28 (a0.toNatClampNeg)) h) + 1).toNatClampNeg))) h) := iv_ltl s19.2 (iv_lit (lo := 0) (hi := 0) (x := 0) rfl) c20 rfl
              unfold PX3_canGo_oc1_137 FX3_canGo_oc1_137
              exact ⟨trivial, (iv_w (c := 0) (d := 1) (iv_lit (lo := 1) (hi := 1) (x := 1) rfl) rfl), fun _ => f7⟩
            · have f22 : iv 0 11 (FX3_lockIn_oc1 (FX3_slotOf a0 (h 3 (((FX5_firstPart_n a0 (h 28 (a0.toNatClampNeg)) h) + 1).toNatClampNeg))) h) := iv_ler s19.2 (iv_lit (lo := 0) (hi := 0) (x := 0) rfl) (nlt c20) rfl
              refine sf_n (iv_in f22 rfl) ?_
              refine sf_if (fun c23 => ?_) (fun c23 => ?_)
              · have f24 : iv (-2) (-2) (h 33 ((FX3_lockIn_oc1 (FX3_slotOf a0 (h 3 (((FX5_firstPart_n a0 (h 28 (a0.toNatClampNeg)) h) + 1).toNatClampNeg))) h).toNatClampNeg)) := iv_eql (iv_any (h 33 ((FX3_lockIn_oc1 (FX3_slotOf a0 (h 3 (((FX5_firstPart_n a0 (h 28 (a0.toNatClampNeg)) h) + 1).toNatClampNeg))) h).toNatClampNeg))) (iv_lit (lo := (-2)) (hi := (-2)) (x := (-2)) rfl) c23 rfl
                unfold PX3_canGo_oc1_137 FX3_canGo_oc1_137
                exact ⟨trivial, (iv_w (c := 0) (d := 1) (iv_lit (lo := 1) (hi := 1) (x := 1) rfl) rfl), fun _ => f7⟩
              · refine sf_n (iv_in f22 rfl) ?_
                refine sf_if (fun c25 => ?_) (fun c25 => ?_)
                · have f26 : iv 0 3 (h 33 ((FX3_lockIn_oc1 (FX3_slotOf a0 (h 3 (((FX5_firstPart_n a0 (h 28 (a0.toNatClampNeg)) h) + 1).toNatClampNeg))) h).toNatClampNeg)) := iv_eql (iv_any (h 33 ((FX3_lockIn_oc1 (FX3_slotOf a0 (h 3 (((FX5_firstPart_n a0 (h 28 (a0.toNatClampNeg)) h) + 1).toNatClampNeg))) h).toNatClampNeg))) f_a0 c25 rfl
                  unfold PX3_canGo_oc1_137 FX3_canGo_oc1_137
                  exact ⟨trivial, (iv_w (c := 0) (d := 1) (iv_lit (lo := 1) (hi := 1) (x := 1) rfl) rfl), fun _ => f7⟩
                · exact ⟨trivial, (iv_w (c := 0) (d := 1) (iv_lit (lo := 0) (hi := 0) (x := 0) rfl) rfl), fun z => absurd rfl z⟩
          · exact ⟨trivial, (iv_w (c := 0) (d := 1) (iv_lit (lo := 1) (hi := 1) (x := 1) rfl) rfl), fun _ => f7⟩
      · have f27 : iv 1 1 (FX3_hasEnded_oc1 a0 h) := iv_nel s5.2.1 c6 rfl
        exact ⟨trivial, (iv_w (c := 0) (d := 1) (iv_lit (lo := 0) (hi := 0) (x := 0) rfl) rfl), fun z => absurd rfl z⟩

-- X3_hold_oc1
set_option maxRecDepth 100000 in
set_option maxHeartbeats 4000000 in
theorem SX3_hold_oc1 {z : zT} (a0 : Int32) (a1 : Int32) (a2 : Int32) (h : ph_H) (I : IC z h) (f_a0 : iv 0 27 a0) (f_a1 : iv 0 3 a1) (q : a1 = 0 ∨ iv 0 11 a2) : PX3_hold_oc1 a0 a1 a2 h ∧ QC z 0 0 (FX3_hold_oc1 a0 a1 a2 h) := by
  unfold PX3_hold_oc1 FX3_hold_oc1
  refine sf_n (iv_in f_a0 rfl) ?_
  refine sf_n (iv_in f_a0 rfl) ?_
  have I2 : IC z (hs (hs h 26 a0.toNatClampNeg a1) 27 a0.toNatClampNeg a2) := ICkv_o I a0.toNatClampNeg f_a1 q
  exact ⟨trivial, QC_mk (iv_lit (lo := 0) (hi := 0) (x := 0) rfl) I2⟩

-- X3_getCell_oc1
set_option maxRecDepth 100000 in
set_option maxHeartbeats 4000000 in
theorem SX3_getCell_oc1 {z : zT} (a0 : Int32) (a1 : Int32) (h : ph_H) (I : IC z h) (f_a0 : iv 0 27 a0) (f_a1 : iv 0 11 a1) : PX3_getCell_oc1 a0 a1 h ∧ QC z 0 0 (FX3_getCell_oc1 a0 a1 h) := by
  unfold PX3_getCell_oc1 FX3_getCell_oc1
  have I1 : IC z (hs h 25 14 a1) := ICs I (k := 25) (i := 14) (v := a1) (iv_any a1) rfl
  refine sf_n (iv_in f_a1 rfl) ?_
  have f2 : iv 0 3 (h 26 (a1.toNatClampNeg)) := ICv I 26 _
  refine sf_n (iv_in f_a1 rfl) ?_
  have s3 := SX3_hold_oc1 (z := z) a0 (h 26 (a1.toNatClampNeg)) (h 27 (a1.toNatClampNeg)) (hs h 25 14 a1) I1 f_a0 f2 (I.2.1.2.1 _)
  refine sf_n s3.1 ?_
  exact ⟨trivial, QC_mk s3.2.1 s3.2.2⟩

-- X3_goTo_oc1
set_option maxRecDepth 100000 in
set_option maxHeartbeats 4000000 in
theorem SX3_goTo_oc1 {z : zT} (a0 : Int32) (h : ph_H) (I : IC z h) : PX3_goTo_oc1 a0 h ∧ QC z 0 0 (FX3_goTo_oc1 a0 h) := by
  unfold PX3_goTo_oc1 FX3_goTo_oc1
  have I1 : IC z (hs h 25 13 a0) := ICs I (k := 25) (i := 13) (v := a0) (iv_any a0) rfl
  exact ⟨trivial, QC_mk (iv_lit (lo := 0) (hi := 0) (x := 0) rfl) I1⟩

-- X3_goUnless_oc1
set_option maxRecDepth 100000 in
set_option maxHeartbeats 4000000 in
theorem SX3_goUnless_oc1 {z : zT} (a0 : Int32) (a1 : Int32) (h : ph_H) (I : IC z h) (f_a0 : iv 0 27 a0) : PX3_goUnless_oc1 a0 a1 h ∧ QC z 0 1 (FX3_goUnless_oc1 a0 a1 h) := by
  unfold PX3_goUnless_oc1 FX3_goUnless_oc1
  refine sf_n (iv_in f_a0 rfl) ?_
  have f1 : iv 0 3 (h 26 (a0.toNatClampNeg)) := ICv I 26 _
  refine sf_if (fun c2 => ?_) (fun c2 => ?_)
  · have f3 : iv 0 0 (h 26 (a0.toNatClampNeg)) := iv_eql f1 (iv_lit (lo := 0) (hi := 0) (x := 0) rfl) c2 rfl
    refine sf_n (iv_in f_a0 rfl) ?_
    refine sf_if (fun c4 => ?_) (fun c4 => ?_)
    · have f5 : iv 0 0 (h 27 (a0.toNatClampNeg)) := iv_eql (iv_any (h 27 (a0.toNatClampNeg))) (iv_lit (lo := 0) (hi := 0) (x := 0) rfl) c4 rfl
      have s6 := SX3_goTo_oc1 (z := z) a1 h I
      refine sf_n s6.1 ?_
      unfold PX3_goUnless_oc1_25 FX3_goUnless_oc1_25
      exact ⟨trivial, QC_mk (iv_w (c := 0) (d := 1) s6.2.1 rfl) s6.2.2⟩
    · exact ⟨trivial, QC_mk (iv_w (c := 0) (d := 1) (iv_lit (lo := 0) (hi := 0) (x := 0) rfl) rfl) I⟩
  · have f7 : iv 1 3 (h 26 (a0.toNatClampNeg)) := iv_nel f1 c2 rfl
    have f8 : iv 0 11 (h 27 (a0.toNatClampNeg)) := KVn_o I f7 rfl
    exact ⟨trivial, QC_mk (iv_w (c := 0) (d := 1) (iv_lit (lo := 1) (hi := 1) (x := 1) rfl) rfl) I⟩

-- X3_free_oc1
set_option maxRecDepth 100000 in
set_option maxHeartbeats 4000000 in
theorem SX3_free_oc1 {z : zT} (a0 : Int32) (h : ph_H) (I : IC z h) (f_a0 : iv 0 11 a0) : PX3_free_oc1 a0 h ∧ QC z 0 0 (FX3_free_oc1 a0 h) := by
  unfold PX3_free_oc1 FX3_free_oc1
  refine sf_n (iv_in f_a0 rfl) ?_
  have I1 : IC z (hs h 33 a0.toNatClampNeg (-2)) := ICs I (k := 33) (i := a0.toNatClampNeg) (v := (-2)) (iv_any (-2)) rfl
  have I2 : IC z (hs (hs h 33 a0.toNatClampNeg (-2)) 25 16 2) := ICs I1 (k := 25) (i := 16) (v := 2) (iv_w (c := 0) (d := 4) (iv_lit (lo := 2) (hi := 2) (x := 2) rfl) rfl) rfl
  have I3 : IC z (hs (hs (hs h 33 a0.toNatClampNeg (-2)) 25 16 2) 25 17 a0) := ICs I2 (k := 25) (i := 17) (v := a0) f_a0 rfl
  exact ⟨trivial, QC_mk (iv_lit (lo := 0) (hi := 0) (x := 0) rfl) I3⟩

-- X3_leaveLock_oc1
set_option maxRecDepth 100000 in
set_option maxHeartbeats 4000000 in
theorem SX3_leaveLock_oc1 {z : zT} (a0 : Int32) (a1 : Int32) (h : ph_H) (I : IC z h) (f_a1 : iv 0 27 a1) : PX3_leaveLock_oc1 a0 a1 h ∧ QC z 0 6 (FX3_leaveLock_oc1 a0 a1 h) := by
  unfold PX3_leaveLock_oc1 FX3_leaveLock_oc1
  have s1 := SX3_lockIn_oc1 (z := z) a1 h I f_a1
  refine sf_n s1.1 ?_
  refine sf_if (fun c2 => ?_) (fun c2 => ?_)
  · have f3 : iv 0 11 (FX3_lockIn_oc1 a1 h) := iv_ler s1.2 (iv_lit (lo := 0) (hi := 0) (x := 0) rfl) c2 rfl
    refine sf_n (iv_in f3 rfl) ?_
    refine sf_if (fun c4 => ?_) (fun c4 => ?_)
    · have s5 := SX3_free_oc1 (z := z) (FX3_lockIn_oc1 a1 h) h I f3
      refine sf_n s5.1 ?_
      exact ⟨trivial, QC_mk (iv_w (c := 0) (d := 6) s5.2.1 rfl) s5.2.2⟩
    · exact ⟨trivial, QC_mk (iv_w (c := 0) (d := 6) (iv_lit (lo := 6) (hi := 6) (x := 6) rfl) rfl) I⟩
  · have f6 : iv (-1) (-1) (FX3_lockIn_oc1 a1 h) := iv_ltl s1.2 (iv_lit (lo := 0) (hi := 0) (x := 0) rfl) (nle c2) rfl
    exact ⟨trivial, QC_mk (iv_w (c := 0) (d := 6) (iv_lit (lo := 1) (hi := 1) (x := 1) rfl) rfl) I⟩

-- X3_gateIn_oc1
set_option maxRecDepth 100000 in
set_option maxHeartbeats 4000000 in
theorem SX3_gateIn_oc1 {z : zT} (a0 : Int32) (h : ph_H) (I : IC z h) (f_a0 : iv 0 27 a0) : PX3_gateIn_oc1 a0 h ∧ iv (-1) 11 (FX3_gateIn_oc1 a0 h) := by
  unfold PX3_gateIn_oc1 FX3_gateIn_oc1
  refine sf_n (iv_in f_a0 rfl) ?_
  have f1 : iv 0 3 (h 26 (a0.toNatClampNeg)) := ICv I 26 _
  refine sf_if (fun c2 => ?_) (fun c2 => ?_)
  · have f3 : iv 3 3 (h 26 (a0.toNatClampNeg)) := iv_eql f1 (iv_lit (lo := 3) (hi := 3) (x := 3) rfl) c2 rfl
    have f4 : iv 0 11 (h 27 (a0.toNatClampNeg)) := KVn_o I f3 rfl
    refine sf_n (iv_in f_a0 rfl) ?_
    exact ⟨trivial, (iv_w (c := (-1)) (d := 11) f4 rfl)⟩
  · have f5 : iv 0 2 (h 26 (a0.toNatClampNeg)) := iv_nel f1 c2 rfl
    exact ⟨trivial, (iv_w (c := (-1)) (d := 11) (iv_lit (lo := (-1)) (hi := (-1)) (x := (-1)) rfl) rfl)⟩

-- X3_lieDown_oc1
set_option maxRecDepth 100000 in
set_option maxHeartbeats 4000000 in
theorem SX3_lieDown_oc1 {z : zT} (a0 : Int32) (a1 : Int32) (h : ph_H) (I : IC z h) (f_a0 : iv 0 3 a0) (f_a1 : iv 0 27 a1) : PX3_lieDown_oc1 a0 a1 h ∧ QC z 0 6 (FX3_lieDown_oc1 a0 a1 h) := by
  unfold PX3_lieDown_oc1 FX3_lieDown_oc1
  have s1 := SX3_gateIn_oc1 (z := z) a1 h I f_a1
  refine sf_n s1.1 ?_
  refine sf_if (fun c2 => ?_) (fun c2 => ?_)
  · have f3 : iv 0 11 (FX3_gateIn_oc1 a1 h) := iv_ler s1.2 (iv_lit (lo := 0) (hi := 0) (x := 0) rfl) c2 rfl
    refine sf_n (iv_in f3 rfl) ?_
    refine sf_if (fun c4 => ?_) (fun c4 => ?_)
    · have f5 : iv 0 3 (h 33 ((FX3_gateIn_oc1 a1 h).toNatClampNeg)) := iv_eql (iv_any (h 33 ((FX3_gateIn_oc1 a1 h).toNatClampNeg))) f_a0 c4 rfl
      refine sf_n (iv_in f_a0 rfl) ?_
      have I6 : IC z (hs h 29 a0.toNatClampNeg 2) := ICs I (k := 29) (i := a0.toNatClampNeg) (v := 2) (iv_any 2) rfl
      refine sf_n (iv_in f_a0 rfl) ?_
      have I7 : IC z (hs (hs h 29 a0.toNatClampNeg 2) 30 a0.toNatClampNeg (FX3_gateIn_oc1 a1 h)) := ICs I6 (k := 30) (i := a0.toNatClampNeg) (v := (FX3_gateIn_oc1 a1 h)) f3 rfl
      refine sf_n (iv_in f_a0 rfl) ?_
      have I8 : IC z (hs (hs (hs h 29 a0.toNatClampNeg 2) 30 a0.toNatClampNeg (FX3_gateIn_oc1 a1 h)) 25 13 (h 28 (a0.toNatClampNeg))) := ICs I7 (k := 25) (i := 13) (v := (h 28 (a0.toNatClampNeg))) (iv_any (h 28 (a0.toNatClampNeg))) rfl
      have s9 := SX3_free_oc1 (z := z) (FX3_gateIn_oc1 a1 h) (hs (hs (hs h 29 a0.toNatClampNeg 2) 30 a0.toNatClampNeg (FX3_gateIn_oc1 a1 h)) 25 13 (h 28 (a0.toNatClampNeg))) I8 f3
      refine sf_n s9.1 ?_
      exact ⟨trivial, QC_mk (iv_w (c := 0) (d := 6) s9.2.1 rfl) s9.2.2⟩
    · exact ⟨trivial, QC_mk (iv_w (c := 0) (d := 6) (iv_lit (lo := 6) (hi := 6) (x := 6) rfl) rfl) I⟩
  · have f10 : iv (-1) (-1) (FX3_gateIn_oc1 a1 h) := iv_ltl s1.2 (iv_lit (lo := 0) (hi := 0) (x := 0) rfl) (nle c2) rfl
    exact ⟨trivial, QC_mk (iv_w (c := 0) (d := 6) (iv_lit (lo := 1) (hi := 1) (x := 1) rfl) rfl) I⟩

-- X3_makeThing_oc1
set_option maxRecDepth 100000 in
set_option maxHeartbeats 4000000 in
theorem SX3_makeThing_oc1 {z : zT} (a0 : Int32) (a1 : Int32) (a2 : Int32) (h : ph_H) (I : IC z h) (f_a0 : iv 0 27 a0) (f_a1 : iv 0 3 a1) (f_a2 : iv 0 16 a2) (g_25_10 : iv 0 11 (h 25 10)) : PX3_makeThing_oc1 a0 a1 a2 h ∧ QC z 0 0 (FX3_makeThing_oc1 a0 a1 a2 h) := by
  unfold PX3_makeThing_oc1 FX3_makeThing_oc1
  have f1 : iv 1 12 ((h 25 10) + 1) := iv_add g_25_10 (iv_lit (lo := 1) (hi := 1) (x := 1) rfl) rfl
  have I2 : IC z (hs h 25 10 ((h 25 10) + 1)) := ICs I (k := 25) (i := 10) (v := ((h 25 10) + 1)) (iv_w (c := 0) (d := 12) f1 rfl) rfl
  refine sf_n (iv_in g_25_10 rfl) ?_
  have I3 : IC z (hs (hs h 25 10 ((h 25 10) + 1)) 31 (h 25 10).toNatClampNeg a1) := ICs I2 (k := 31) (i := (h 25 10).toNatClampNeg) (v := a1) (iv_any a1) rfl
  refine sf_n (iv_in g_25_10 rfl) ?_
  have I4 : IC z (hs (hs (hs h 25 10 ((h 25 10) + 1)) 31 (h 25 10).toNatClampNeg a1) 32 (h 25 10).toNatClampNeg a2) := ICs I3 (k := 32) (i := (h 25 10).toNatClampNeg) (v := a2) f_a2 rfl
  refine sf_n (iv_in g_25_10 rfl) ?_
  have I5 : IC z (hs (hs (hs (hs h 25 10 ((h 25 10) + 1)) 31 (h 25 10).toNatClampNeg a1) 32 (h 25 10).toNatClampNeg a2) 33 (h 25 10).toNatClampNeg (-2)) := ICs I4 (k := 33) (i := (h 25 10).toNatClampNeg) (v := (-2)) (iv_any (-2)) rfl
  refine sf_n (iv_in f_a0 rfl) ?_
  refine sf_n (iv_in f_a0 rfl) ?_
  have I7 : IC z (hs (hs (hs (hs (hs (hs h 25 10 ((h 25 10) + 1)) 31 (h 25 10).toNatClampNeg a1) 32 (h 25 10).toNatClampNeg a2) 33 (h 25 10).toNatClampNeg (-2)) 26 a0.toNatClampNeg a1) 27 a0.toNatClampNeg (h 25 10)) := ICkv_o I5 a0.toNatClampNeg f_a1 (Or.inr g_25_10)
  exact ⟨trivial, QC_mk (iv_lit (lo := 0) (hi := 0) (x := 0) rfl) I7⟩

-- X3_makeLock_oc1
set_option maxRecDepth 100000 in
set_option maxHeartbeats 4000000 in
theorem SX3_makeLock_oc1 {z : zT} (a0 : Int32) (a1 : Int32) (h : ph_H) (I : IC z h) (f_a0 : iv 0 27 a0) (f_a1 : iv 0 1 a1) : PX3_makeLock_oc1 a0 a1 h ∧ QC z 0 3 (FX3_makeLock_oc1 a0 a1 h) := by
  unfold PX3_makeLock_oc1 FX3_makeLock_oc1
  have f1 : iv 0 12 (h 25 10) := ICv I 25 _
  refine sf_if (fun c2 => ?_) (fun c2 => ?_)
  · have f3 : iv 0 11 (h 25 10) := iv_ltl f1 (iv_lit (lo := 12) (hi := 12) (x := 12) rfl) c2 rfl
    refine sf_if (fun c4 => ?_) (fun c4 => ?_)
    · have f5 : iv 0 0 a1 := iv_eql f_a1 (iv_lit (lo := 0) (hi := 0) (x := 0) rfl) c4 rfl
      unfold PX3_makeLock_oc1_22 FX3_makeLock_oc1_22
      have s6 := SX3_makeThing_oc1 (z := z) a0 2 0 h I f_a0 (iv_w (c := 0) (d := 3) (iv_lit (lo := 2) (hi := 2) (x := 2) rfl) rfl) (iv_w (c := 0) (d := 16) (iv_lit (lo := 0) (hi := 0) (x := 0) rfl) rfl) f3
      refine sf_n s6.1 ?_
      exact ⟨trivial, QC_mk (iv_w (c := 0) (d := 3) s6.2.1 rfl) s6.2.2⟩
    · have f7 : iv 1 1 a1 := iv_nel f_a1 c4 rfl
      unfold PX3_makeLock_oc1_22 FX3_makeLock_oc1_22
      have s8 := SX3_makeThing_oc1 (z := z) a0 3 0 h I f_a0 (iv_w (c := 0) (d := 3) (iv_lit (lo := 3) (hi := 3) (x := 3) rfl) rfl) (iv_w (c := 0) (d := 16) (iv_lit (lo := 0) (hi := 0) (x := 0) rfl) rfl) f3
      refine sf_n s8.1 ?_
      exact ⟨trivial, QC_mk (iv_w (c := 0) (d := 3) s8.2.1 rfl) s8.2.2⟩
  · have f9 : iv 12 12 (h 25 10) := iv_ler f1 (iv_lit (lo := 12) (hi := 12) (x := 12) rfl) (nlt c2) rfl
    exact ⟨trivial, QC_mk (iv_w (c := 0) (d := 3) (iv_lit (lo := 3) (hi := 3) (x := 3) rfl) rfl) I⟩

-- X3_makeRow_oc1
set_option maxRecDepth 100000 in
set_option maxHeartbeats 4000000 in
theorem SX3_makeRow_oc1_44 {z : zT} : ∀ (q : Nat) (x1 : Int32) (x3 : Int32) (x4 : Int32) (h : ph_H), IC z h → iv 0 27 x1 → iv 0 16 x3 → iv 0 16 x4 → iv 0 11 (h 25 10) → 16 - (x4).toInt < ((q : Nat) : Int) → PX3_makeRow_oc1_44  q x1 x3 x4 h ∧ QC z 0 3 (FX3_makeRow_oc1_44  q x1 x3 x4 h) := by
  intro q
  induction q with
  | zero =>
    intro x1 x3 x4 h I f_x1 f_x3 f_x4 g_25_10 mq
    exact mu_zu f_x4 mq rfl
  | succ q ih =>
    intro x1 x3 x4 h I f_x1 f_x3 f_x4 g_25_10 mq
    unfold PX3_makeRow_oc1_44 FX3_makeRow_oc1_44
    refine sf_if (fun c1 => ?_) (fun c1 => ?_)
    · have s2 := SX3_makeThing_oc1 (z := z) x1 1 x3 h I f_x1 (iv_w (c := 0) (d := 3) (iv_lit (lo := 1) (hi := 1) (x := 1) rfl) rfl) f_x3 g_25_10
      refine sf_n s2.1 ?_
      exact ⟨trivial, QC_mk (iv_w (c := 0) (d := 3) s2.2.1 rfl) s2.2.2⟩
    · have f3 : iv 0 15 x4 := iv_ltl f_x4 f_x3 (nle c1) rfl
      have f4 : iv 1 16 x3 := iv_ltr f_x3 f_x4 (nle c1) rfl
      have f5 : iv 0 176 ((h 25 10) * 16) := iv_mulr (c := 16) rfl g_25_10 rfl
      have f6 : iv 0 191 (((h 25 10) * 16) + x4) := iv_add f5 f3 rfl
      refine sf_n (iv_in f6 rfl) ?_
      have I7 : IC z (hs h 34 (((h 25 10) * 16) + x4).toNatClampNeg 0) := ICs I (k := 34) (i := (((h 25 10) * 16) + x4).toNatClampNeg) (v := 0) (iv_any 0) rfl
      have f8 : iv 1 16 (x4 + 1) := iv_add f3 (iv_lit (lo := 1) (hi := 1) (x := 1) rfl) rfl
      exact ih x1 x3 (x4 + 1) (hs h 34 (((h 25 10) * 16) + x4).toNatClampNeg 0) I7 f_x1 (iv_w (c := 0) (d := 16) f4 rfl) (iv_w (c := 0) (d := 16) f8 rfl) (iv_r (hz_k (by decide)) g_25_10) (mu_up f3 mq rfl)
set_option maxRecDepth 100000 in
set_option maxHeartbeats 4000000 in
theorem SX3_makeRow_oc1 {z : zT} (a0 : Int32) (a1 : Int32) (h : ph_H) (I : IC z h) (f_a0 : iv 0 27 a0) (f_a1 : iv 0 27 a1) : PX3_makeRow_oc1 a0 a1 h ∧ QC z 0 3 (FX3_makeRow_oc1 a0 a1 h) := by
  unfold PX3_makeRow_oc1 FX3_makeRow_oc1
  refine sf_n (iv_in f_a1 rfl) ?_
  have f1 : iv 0 3 (h 26 (a1.toNatClampNeg)) := ICv I 26 _
  refine sf_if (fun c2 => ?_) (fun c2 => ?_)
  · have f3 : iv 0 0 (h 26 (a1.toNatClampNeg)) := iv_eql f1 (iv_lit (lo := 0) (hi := 0) (x := 0) rfl) c2 rfl
    refine sf_n (iv_in f_a1 rfl) ?_
    refine sf_if (fun c4 => ?_) (fun c4 => ?_)
    · have f5 : iv 0 2147483647 (h 27 (a1.toNatClampNeg)) := iv_ler (iv_any (h 27 (a1.toNatClampNeg))) (iv_lit (lo := 0) (hi := 0) (x := 0) rfl) c4 rfl
      refine sf_if (fun c6 => ?_) (fun c6 => ?_)
      · have f7 : iv 17 2147483647 (h 27 (a1.toNatClampNeg)) := iv_ltr f5 (iv_lit (lo := 16) (hi := 16) (x := 16) rfl) c6 rfl
        exact ⟨trivial, QC_mk (iv_w (c := 0) (d := 3) (iv_lit (lo := 3) (hi := 3) (x := 3) rfl) rfl) I⟩
      · have f8 : iv 0 16 (h 27 (a1.toNatClampNeg)) := iv_lel f5 (iv_lit (lo := 16) (hi := 16) (x := 16) rfl) (nlt c6) rfl
        have f9 : iv 0 12 (h 25 10) := ICv I 25 _
        refine sf_if (fun c10 => ?_) (fun c10 => ?_)
        · have f11 : iv 0 11 (h 25 10) := iv_ltl f9 (iv_lit (lo := 12) (hi := 12) (x := 12) rfl) c10 rfl
          exact SX3_makeRow_oc1_44 2000 a0 (h 27 (a1.toNatClampNeg)) 0 h I f_a0 f8 (iv_w (c := 0) (d := 16) (iv_lit (lo := 0) (hi := 0) (x := 0) rfl) rfl) f11 (mu_0u (iv_lit (lo := 0) (hi := 0) (x := 0) rfl) rfl)
        · have f12 : iv 12 12 (h 25 10) := iv_ler f9 (iv_lit (lo := 12) (hi := 12) (x := 12) rfl) (nlt c10) rfl
          exact ⟨trivial, QC_mk (iv_w (c := 0) (d := 3) (iv_lit (lo := 3) (hi := 3) (x := 3) rfl) rfl) I⟩
    · have f13 : iv (-2147483648) (-1) (h 27 (a1.toNatClampNeg)) := iv_ltl (iv_any (h 27 (a1.toNatClampNeg))) (iv_lit (lo := 0) (hi := 0) (x := 0) rfl) (nle c4) rfl
      exact ⟨trivial, QC_mk (iv_w (c := 0) (d := 3) (iv_lit (lo := 2) (hi := 2) (x := 2) rfl) rfl) I⟩
  · have f14 : iv 1 3 (h 26 (a1.toNatClampNeg)) := iv_nel f1 c2 rfl
    have f15 : iv 0 11 (h 27 (a1.toNatClampNeg)) := KVn_o I f14 rfl
    exact ⟨trivial, QC_mk (iv_w (c := 0) (d := 3) (iv_lit (lo := 1) (hi := 1) (x := 1) rfl) rfl) I⟩
end MG_18_s00
section MG_18_s01
-- X3_putCell_oc1
set_option maxRecDepth 100000 in
set_option maxHeartbeats 4000000 in
theorem SX3_putCell_oc1 {z : zT} (a0 : Int32) (a1 : Int32) (h : ph_H) (I : IC z h) (f_a0 : iv 0 11 a0) (f_a1 : iv 0 27 a1) : PX3_putCell_oc1 a0 a1 h ∧ QC z 0 0 (FX3_putCell_oc1 a0 a1 h) := by
  unfold PX3_putCell_oc1 FX3_putCell_oc1
  have I1 : IC z (hs h 25 15 a0) := ICs I (k := 25) (i := 15) (v := a0) (iv_any a0) rfl
  refine sf_n (iv_in f_a1 rfl) ?_
  have f2 : iv 0 3 (h 26 (a1.toNatClampNeg)) := ICv I 26 _
  refine sf_n (iv_in f_a1 rfl) ?_
  have s3 := SX3_hold_oc1 (z := z) a0 (h 26 (a1.toNatClampNeg)) (h 27 (a1.toNatClampNeg)) (hs h 25 15 a0) I1 (iv_w (c := 0) (d := 27) f_a0 rfl) f2 (I.2.1.2.1 _)
  refine sf_n s3.1 ?_
  exact ⟨trivial, QC_mk s3.2.1 s3.2.2⟩

-- X3_hasRowPlace_oc1
set_option maxRecDepth 100000 in
set_option maxHeartbeats 4000000 in
theorem SX3_hasRowPlace_oc1 {z : zT} (a0 : Int32) (a1 : Int32) (h : ph_H) (I : IC z h) : PX3_hasRowPlace_oc1 a0 a1 h ∧ Qc 0 1 (fun r => ¬ r = 0 → iv 0 11 a0 ∧ iv 0 15 a1) (FX3_hasRowPlace_oc1 a0 a1 h) := by
  unfold PX3_hasRowPlace_oc1 FX3_hasRowPlace_oc1
  refine sf_if (fun c1 => ?_) (fun c1 => ?_)
  · have f2 : iv (-2147483648) (-1) a0 := iv_ltl (iv_any a0) (iv_lit (lo := 0) (hi := 0) (x := 0) rfl) c1 rfl
    exact ⟨trivial, (iv_w (c := 0) (d := 1) (iv_lit (lo := 0) (hi := 0) (x := 0) rfl) rfl), fun z => absurd rfl z⟩
  · have f3 : iv 0 2147483647 a0 := iv_ler (iv_any a0) (iv_lit (lo := 0) (hi := 0) (x := 0) rfl) (nlt c1) rfl
    have f4 : iv 0 12 (h 25 10) := ICv I 25 _
    refine sf_if (fun c5 => ?_) (fun c5 => ?_)
    · exact ⟨trivial, (iv_w (c := 0) (d := 1) (iv_lit (lo := 0) (hi := 0) (x := 0) rfl) rfl), fun z => absurd rfl z⟩
    · have f6 : iv 0 11 a0 := iv_ltl f3 f4 (nle c5) rfl
      have f7 : iv 1 12 (h 25 10) := iv_ltr f4 f3 (nle c5) rfl
      refine sf_n (iv_in f6 rfl) ?_
      refine sf_if (fun c8 => ?_) (fun c8 => ?_)
      · have f9 : iv 1 1 (h 31 (a0.toNatClampNeg)) := iv_eql (iv_any (h 31 (a0.toNatClampNeg))) (iv_lit (lo := 1) (hi := 1) (x := 1) rfl) c8 rfl
        refine sf_if (fun c10 => ?_) (fun c10 => ?_)
        · have f11 : iv (-2147483648) (-1) a1 := iv_ltl (iv_any a1) (iv_lit (lo := 0) (hi := 0) (x := 0) rfl) c10 rfl
          exact ⟨trivial, (iv_w (c := 0) (d := 1) (iv_lit (lo := 0) (hi := 0) (x := 0) rfl) rfl), fun z => absurd rfl z⟩
        · have f12 : iv 0 2147483647 a1 := iv_ler (iv_any a1) (iv_lit (lo := 0) (hi := 0) (x := 0) rfl) (nlt c10) rfl
          refine sf_n (iv_in f6 rfl) ?_
          have f13 : iv 0 16 (h 32 (a0.toNatClampNeg)) := ICv I 32 _
          refine sf_if (fun c14 => ?_) (fun c14 => ?_)
          · exact ⟨trivial, (iv_w (c := 0) (d := 1) (iv_lit (lo := 0) (hi := 0) (x := 0) rfl) rfl), fun z => absurd rfl z⟩
          · have f15 : iv 0 15 a1 := iv_ltl f12 f13 (nle c14) rfl
            have f16 : iv 1 16 (h 32 (a0.toNatClampNeg)) := iv_ltr f13 f12 (nle c14) rfl
            exact ⟨trivial, (iv_w (c := 0) (d := 1) (iv_lit (lo := 1) (hi := 1) (x := 1) rfl) rfl), fun _ => ⟨f6, f15⟩⟩
      · exact ⟨trivial, (iv_w (c := 0) (d := 1) (iv_lit (lo := 0) (hi := 0) (x := 0) rfl) rfl), fun z => absurd rfl z⟩

-- X3_readRow_oc1
set_option maxRecDepth 100000 in
set_option maxHeartbeats 4000000 in
theorem SX3_readRow_oc1 {z : zT} (a0 : Int32) (a1 : Int32) (a2 : Int32) (h : ph_H) (I : IC z h) (f_a0 : iv 0 27 a0) (f_a1 : iv 0 27 a1) (f_a2 : iv 0 27 a2) : PX3_readRow_oc1 a0 a1 a2 h ∧ QC z 0 4 (FX3_readRow_oc1 a0 a1 a2 h) := by
  unfold PX3_readRow_oc1 FX3_readRow_oc1
  refine sf_n (iv_in f_a1 rfl) ?_
  have f1 : iv 0 3 (h 26 (a1.toNatClampNeg)) := ICv I 26 _
  refine sf_if (fun c2 => ?_) (fun c2 => ?_)
  · have f3 : iv 1 1 (h 26 (a1.toNatClampNeg)) := iv_eql f1 (iv_lit (lo := 1) (hi := 1) (x := 1) rfl) c2 rfl
    have f4 : iv 0 11 (h 27 (a1.toNatClampNeg)) := KVn_o I f3 rfl
    refine sf_n (iv_in f_a2 rfl) ?_
    have f5 : iv 0 3 (h 26 (a2.toNatClampNeg)) := ICv I 26 _
    refine sf_if (fun c6 => ?_) (fun c6 => ?_)
    · have f7 : iv 0 0 (h 26 (a2.toNatClampNeg)) := iv_eql f5 (iv_lit (lo := 0) (hi := 0) (x := 0) rfl) c6 rfl
      refine sf_n (iv_in f_a1 rfl) ?_
      refine sf_n (iv_in f_a2 rfl) ?_
      have s8 := SX3_hasRowPlace_oc1 (z := z) (h 27 (a1.toNatClampNeg)) (h 27 (a2.toNatClampNeg)) h I
      refine sf_n s8.1 ?_
      refine sf_if (fun c9 => ?_) (fun c9 => ?_)
      · have f10 : iv 0 0 (FX3_hasRowPlace_oc1 (h 27 (a1.toNatClampNeg)) (h 27 (a2.toNatClampNeg)) h) := iv_eql s8.2.1 (iv_lit (lo := 0) (hi := 0) (x := 0) rfl) c9 rfl
        exact ⟨trivial, QC_mk (iv_w (c := 0) (d := 4) (iv_lit (lo := 4) (hi := 4) (x := 4) rfl) rfl) I⟩
      · have f11 : iv 0 15 (h 27 (a2.toNatClampNeg)) := iv_and (iv_any _) (s8.2.2 c9).2 rfl
        have f12 : iv 1 1 (FX3_hasRowPlace_oc1 (h 27 (a1.toNatClampNeg)) (h 27 (a2.toNatClampNeg)) h) := iv_nel s8.2.1 c9 rfl
        have f13 : iv 0 220 ((h 27 (a1.toNatClampNeg)) * 20) := iv_mulr (c := 20) rfl f4 rfl
        have f14 : iv 100 320 (100 + ((h 27 (a1.toNatClampNeg)) * 20)) := iv_add (iv_lit (lo := 100) (hi := 100) (x := 100) rfl) f13 rfl
        have f15 : iv 100 335 ((100 + ((h 27 (a1.toNatClampNeg)) * 20)) + (h 27 (a2.toNatClampNeg))) := iv_add f14 f11 rfl
        have I16 : IC z (hs h 25 14 ((100 + ((h 27 (a1.toNatClampNeg)) * 20)) + (h 27 (a2.toNatClampNeg)))) := ICs I (k := 25) (i := 14) (v := ((100 + ((h 27 (a1.toNatClampNeg)) * 20)) + (h 27 (a2.toNatClampNeg)))) (iv_any ((100 + ((h 27 (a1.toNatClampNeg)) * 20)) + (h 27 (a2.toNatClampNeg)))) rfl
        have f17 : iv 0 176 ((h 27 (a1.toNatClampNeg)) * 16) := iv_mulr (c := 16) rfl f4 rfl
        have f18 : iv 0 191 (((h 27 (a1.toNatClampNeg)) * 16) + (h 27 (a2.toNatClampNeg))) := iv_add f17 f11 rfl
        refine sf_n (iv_in f18 rfl) ?_
        have s19 := SX3_hold_oc1 (z := z) a0 0 (h 34 ((((h 27 (a1.toNatClampNeg)) * 16) + (h 27 (a2.toNatClampNeg))).toNatClampNeg)) (hs h 25 14 ((100 + ((h 27 (a1.toNatClampNeg)) * 20)) + (h 27 (a2.toNatClampNeg)))) I16 f_a0 (iv_w (c := 0) (d := 3) (iv_lit (lo := 0) (hi := 0) (x := 0) rfl) rfl) (Or.inl rfl)
        refine sf_n s19.1 ?_
        exact ⟨trivial, QC_mk (iv_w (c := 0) (d := 4) s19.2.1 rfl) s19.2.2⟩
    · have f20 : iv 1 3 (h 26 (a2.toNatClampNeg)) := iv_nel f5 c6 rfl
      have f21 : iv 0 11 (h 27 (a2.toNatClampNeg)) := KVn_o I f20 rfl
      exact ⟨trivial, QC_mk (iv_w (c := 0) (d := 4) (iv_lit (lo := 1) (hi := 1) (x := 1) rfl) rfl) I⟩
  · exact ⟨trivial, QC_mk (iv_w (c := 0) (d := 4) (iv_lit (lo := 1) (hi := 1) (x := 1) rfl) rfl) I⟩

-- X3_bothNumbers_oc1
set_option maxRecDepth 100000 in
set_option maxHeartbeats 4000000 in
theorem SX3_bothNumbers_oc1 {z : zT} (a0 : Int32) (a1 : Int32) (h : ph_H) (I : IC z h) (f_a0 : iv 0 27 a0) (f_a1 : iv 0 27 a1) : PX3_bothNumbers_oc1 a0 a1 h ∧ iv 0 1 (FX3_bothNumbers_oc1 a0 a1 h) := by
  unfold PX3_bothNumbers_oc1 FX3_bothNumbers_oc1
  refine sf_n (iv_in f_a0 rfl) ?_
  have f1 : iv 0 3 (h 26 (a0.toNatClampNeg)) := ICv I 26 _
  refine sf_if (fun c2 => ?_) (fun c2 => ?_)
  · have f3 : iv 0 0 (h 26 (a0.toNatClampNeg)) := iv_eql f1 (iv_lit (lo := 0) (hi := 0) (x := 0) rfl) c2 rfl
    refine sf_n (iv_in f_a1 rfl) ?_
    have f4 : iv 0 3 (h 26 (a1.toNatClampNeg)) := ICv I 26 _
    refine sf_if (fun c5 => ?_) (fun c5 => ?_)
    · have f6 : iv 0 0 (h 26 (a1.toNatClampNeg)) := iv_eql f4 (iv_lit (lo := 0) (hi := 0) (x := 0) rfl) c5 rfl
      exact ⟨trivial, (iv_w (c := 0) (d := 1) (iv_lit (lo := 1) (hi := 1) (x := 1) rfl) rfl)⟩
    · have f7 : iv 1 3 (h 26 (a1.toNatClampNeg)) := iv_nel f4 c5 rfl
      have f8 : iv 0 11 (h 27 (a1.toNatClampNeg)) := KVn_o I f7 rfl
      exact ⟨trivial, (iv_w (c := 0) (d := 1) (iv_lit (lo := 0) (hi := 0) (x := 0) rfl) rfl)⟩
  · have f9 : iv 1 3 (h 26 (a0.toNatClampNeg)) := iv_nel f1 c2 rfl
    have f10 : iv 0 11 (h 27 (a0.toNatClampNeg)) := KVn_o I f9 rfl
    exact ⟨trivial, (iv_w (c := 0) (d := 1) (iv_lit (lo := 0) (hi := 0) (x := 0) rfl) rfl)⟩

-- X3_reckon_oc1
set_option maxRecDepth 100000 in
set_option maxHeartbeats 4000000 in
theorem SX3_reckon_oc1 {z : zT} (a0 : Int32) (a1 : Int32) (a2 : Int32) (h : ph_H) (I : IC z h) (f_a1 : iv 0 27 a1) (f_a2 : iv 0 27 a2) : PX3_reckon_oc1 a0 a1 a2 h ∧ QC z 0 1 (FX3_reckon_oc1 a0 a1 a2 h) := by
  unfold PX3_reckon_oc1 FX3_reckon_oc1
  have s1 := SX3_bothNumbers_oc1 (z := z) a1 a2 h I f_a1 f_a2
  refine sf_n s1.1 ?_
  refine sf_if (fun c2 => ?_) (fun c2 => ?_)
  · have f3 : iv 0 0 (FX3_bothNumbers_oc1 a1 a2 h) := iv_eql s1.2 (iv_lit (lo := 0) (hi := 0) (x := 0) rfl) c2 rfl
    exact ⟨trivial, QC_mk (iv_w (c := 0) (d := 1) (iv_lit (lo := 1) (hi := 1) (x := 1) rfl) rfl) I⟩
  · have f4 : iv 1 1 (FX3_bothNumbers_oc1 a1 a2 h) := iv_nel s1.2 c2 rfl
    refine sf_n (iv_in f_a1 rfl) ?_
    refine sf_n (iv_in f_a2 rfl) ?_
    refine sf_if (fun c5 => ?_) (fun c5 => ?_)
    · have f6 : iv 3 3 a0 := iv_eql (iv_any a0) (iv_lit (lo := 3) (hi := 3) (x := 3) rfl) c5 rfl
      unfold PX3_reckon_oc1_58 FX3_reckon_oc1_58
      have s7 := SX3_hold_oc1 (z := z) a1 0 ((h 27 (a1.toNatClampNeg)) + (h 27 (a2.toNatClampNeg))) h I f_a1 (iv_w (c := 0) (d := 3) (iv_lit (lo := 0) (hi := 0) (x := 0) rfl) rfl) (Or.inl rfl)
      refine sf_n s7.1 ?_
      exact ⟨trivial, QC_mk (iv_w (c := 0) (d := 1) s7.2.1 rfl) s7.2.2⟩
    · refine sf_if (fun c8 => ?_) (fun c8 => ?_)
      · have f9 : iv 4 4 a0 := iv_eql (iv_any a0) (iv_lit (lo := 4) (hi := 4) (x := 4) rfl) c8 rfl
        unfold PX3_reckon_oc1_58 FX3_reckon_oc1_58
        have s10 := SX3_hold_oc1 (z := z) a1 0 ((h 27 (a1.toNatClampNeg)) - (h 27 (a2.toNatClampNeg))) h I f_a1 (iv_w (c := 0) (d := 3) (iv_lit (lo := 0) (hi := 0) (x := 0) rfl) rfl) (Or.inl rfl)
        refine sf_n s10.1 ?_
        exact ⟨trivial, QC_mk (iv_w (c := 0) (d := 1) s10.2.1 rfl) s10.2.2⟩
      · unfold PX3_reckon_oc1_58 FX3_reckon_oc1_58
        have s11 := SX3_hold_oc1 (z := z) a1 0 ((h 27 (a1.toNatClampNeg)) * (h 27 (a2.toNatClampNeg))) h I f_a1 (iv_w (c := 0) (d := 3) (iv_lit (lo := 0) (hi := 0) (x := 0) rfl) rfl) (Or.inl rfl)
        refine sf_n s11.1 ?_
        exact ⟨trivial, QC_mk (iv_w (c := 0) (d := 1) s11.2.1 rfl) s11.2.2⟩

-- X3_startThread_oc1
set_option maxRecDepth 100000 in
set_option maxHeartbeats 4000000 in
theorem SX3_startThread_oc1 {z : zT} (a0 : Int32) (h : ph_H) (I : IC z h) (f_a0 : iv 0 3 a0) : PX3_startThread_oc1 a0 h ∧ QC z 0 5 (FX3_startThread_oc1 a0 h) := by
  unfold PX3_startThread_oc1 FX3_startThread_oc1
  refine sf_n (iv_in f_a0 rfl) ?_
  refine sf_if (fun c1 => ?_) (fun c1 => ?_)
  · have f2 : iv 0 0 (h 29 (a0.toNatClampNeg)) := iv_eql (iv_any (h 29 (a0.toNatClampNeg))) (iv_lit (lo := 0) (hi := 0) (x := 0) rfl) c1 rfl
    refine sf_n (iv_in f_a0 rfl) ?_
    have I3 : IC z (hs h 29 a0.toNatClampNeg 1) := ICs I (k := 29) (i := a0.toNatClampNeg) (v := 1) (iv_any 1) rfl
    have I4 : IC z (hs (hs h 29 a0.toNatClampNeg 1) 25 16 4) := ICs I3 (k := 25) (i := 16) (v := 4) (iv_w (c := 0) (d := 4) (iv_lit (lo := 4) (hi := 4) (x := 4) rfl) rfl) rfl
    have I5 : IC z (hs (hs (hs h 29 a0.toNatClampNeg 1) 25 16 4) 25 17 a0) := ICs I4 (k := 25) (i := 17) (v := a0) (iv_w (c := 0) (d := 11) f_a0 rfl) rfl
    exact ⟨trivial, QC_mk (iv_w (c := 0) (d := 5) (iv_lit (lo := 0) (hi := 0) (x := 0) rfl) rfl) I5⟩
  · exact ⟨trivial, QC_mk (iv_w (c := 0) (d := 5) (iv_lit (lo := 5) (hi := 5) (x := 5) rfl) rfl) I⟩

-- X3_takeInput_oc1
set_option maxRecDepth 100000 in
set_option maxHeartbeats 4000000 in
theorem SX3_takeInput_oc1 {z : zT} (a0 : Int32) (h : ph_H) (I : IC z h) (f_a0 : iv 0 27 a0) : PX3_takeInput_oc1 a0 h ∧ QC z 0 7 (FX3_takeInput_oc1 a0 h) := by
  unfold PX3_takeInput_oc1 FX3_takeInput_oc1
  have f1 : iv 0 30 (h 25 12) := ICv I 25 _
  refine sf_if (fun c2 => ?_) (fun c2 => ?_)
  · have f3 : iv (-2147483648) 30 (h 25 11) := iv_lel (iv_any (h 25 11)) f1 c2 rfl
    exact ⟨trivial, QC_mk (iv_w (c := 0) (d := 7) (iv_lit (lo := 7) (hi := 7) (x := 7) rfl) rfl) I⟩
  · have f4 : iv 1 2147483647 (h 25 11) := iv_ltr (iv_any (h 25 11)) f1 (nle c2) rfl
    refine sf_if (fun c5 => ?_) (fun c5 => ?_)
    · have f6 : iv 0 29 (h 25 12) := iv_ltl f1 (iv_lit (lo := 30) (hi := 30) (x := 30) rfl) c5 rfl
      have f7 : iv 1 30 ((h 25 12) + 1) := iv_add f6 (iv_lit (lo := 1) (hi := 1) (x := 1) rfl) rfl
      have I8 : IC z (hs h 25 12 ((h 25 12) + 1)) := ICs I (k := 25) (i := 12) (v := ((h 25 12) + 1)) (iv_w (c := 0) (d := 30) f7 rfl) rfl
      have f9 : iv 0 29 (((h 25 12) + 1) - 1) := iv_sub f7 (iv_lit (lo := 1) (hi := 1) (x := 1) rfl) rfl
      refine sf_n (iv_in f9 rfl) ?_
      have s10 := SX3_hold_oc1 (z := z) a0 0 (h 5 ((((h 25 12) + 1) - 1).toNatClampNeg)) (hs h 25 12 ((h 25 12) + 1)) I8 f_a0 (iv_w (c := 0) (d := 3) (iv_lit (lo := 0) (hi := 0) (x := 0) rfl) rfl) (Or.inl rfl)
      refine sf_n s10.1 ?_
      exact ⟨trivial, QC_mk (iv_w (c := 0) (d := 7) s10.2.1 rfl) s10.2.2⟩
    · have f11 : iv 30 30 (h 25 12) := iv_ler f1 (iv_lit (lo := 30) (hi := 30) (x := 30) rfl) (nlt c5) rfl
      exact ⟨trivial, QC_mk (iv_w (c := 0) (d := 7) (iv_lit (lo := 7) (hi := 7) (x := 7) rfl) rfl) I⟩

-- X3_own_oc1
set_option maxRecDepth 100000 in
set_option maxHeartbeats 4000000 in
theorem SX3_own_oc1 {z : zT} (a0 : Int32) (a1 : Int32) (h : ph_H) (I : IC z h) (f_a1 : iv 0 11 a1) : PX3_own_oc1 a0 a1 h ∧ QC z 0 0 (FX3_own_oc1 a0 a1 h) := by
  unfold PX3_own_oc1 FX3_own_oc1
  refine sf_n (iv_in f_a1 rfl) ?_
  have I1 : IC z (hs h 33 a1.toNatClampNeg a0) := ICs I (k := 33) (i := a1.toNatClampNeg) (v := a0) (iv_any a0) rfl
  have I2 : IC z (hs (hs h 33 a1.toNatClampNeg a0) 25 16 1) := ICs I1 (k := 25) (i := 16) (v := 1) (iv_w (c := 0) (d := 4) (iv_lit (lo := 1) (hi := 1) (x := 1) rfl) rfl) rfl
  have I3 : IC z (hs (hs (hs h 33 a1.toNatClampNeg a0) 25 16 1) 25 17 a1) := ICs I2 (k := 25) (i := 17) (v := a1) f_a1 rfl
  exact ⟨trivial, QC_mk (iv_lit (lo := 0) (hi := 0) (x := 0) rfl) I3⟩

-- X3_takeLock_oc1
set_option maxRecDepth 100000 in
set_option maxHeartbeats 4000000 in
theorem SX3_takeLock_oc1 {z : zT} (a0 : Int32) (a1 : Int32) (h : ph_H) (I : IC z h) (f_a0 : iv 0 3 a0) (f_a1 : iv 0 27 a1) : PX3_takeLock_oc1 a0 a1 h ∧ QC z 0 5 (FX3_takeLock_oc1 a0 a1 h) := by
  unfold PX3_takeLock_oc1 FX3_takeLock_oc1
  have s1 := SX3_lockIn_oc1 (z := z) a1 h I f_a1
  refine sf_n s1.1 ?_
  refine sf_if (fun c2 => ?_) (fun c2 => ?_)
  · have f3 : iv 0 11 (FX3_lockIn_oc1 a1 h) := iv_ler s1.2 (iv_lit (lo := 0) (hi := 0) (x := 0) rfl) c2 rfl
    refine sf_n (iv_in f3 rfl) ?_
    refine sf_if (fun c4 => ?_) (fun c4 => ?_)
    · have f5 : iv 0 3 (h 33 ((FX3_lockIn_oc1 a1 h).toNatClampNeg)) := iv_eql (iv_any (h 33 ((FX3_lockIn_oc1 a1 h).toNatClampNeg))) f_a0 c4 rfl
      exact ⟨trivial, QC_mk (iv_w (c := 0) (d := 5) (iv_lit (lo := 5) (hi := 5) (x := 5) rfl) rfl) I⟩
    · have s6 := SX3_own_oc1 (z := z) a0 (FX3_lockIn_oc1 a1 h) h I f3
      refine sf_n s6.1 ?_
      exact ⟨trivial, QC_mk (iv_w (c := 0) (d := 5) s6.2.1 rfl) s6.2.2⟩
  · have f7 : iv (-1) (-1) (FX3_lockIn_oc1 a1 h) := iv_ltl s1.2 (iv_lit (lo := 0) (hi := 0) (x := 0) rfl) (nle c2) rfl
    exact ⟨trivial, QC_mk (iv_w (c := 0) (d := 5) (iv_lit (lo := 1) (hi := 1) (x := 1) rfl) rfl) I⟩

-- X3_wakeSleepers_oc1
set_option maxRecDepth 100000 in
set_option maxHeartbeats 4000000 in
theorem SX3_wakeSleepers_oc1_28 {z : zT} : ∀ (q : Nat) (x3 : Int32) (x4 : Int32) (h : ph_H), IC z h → iv 0 11 x3 → iv 0 4 x4 → 4 - (x4).toInt < ((q : Nat) : Int) → PX3_wakeSleepers_oc1_28  q x3 x4 h ∧ QC z 0 6 (FX3_wakeSleepers_oc1_28  q x3 x4 h) := by
  intro q
  induction q with
  | zero =>
    intro x3 x4 h I f_x3 f_x4 mq
    exact mu_zu f_x4 mq rfl
  | succ q ih =>
    intro x3 x4 h I f_x3 f_x4 mq
    unfold PX3_wakeSleepers_oc1_28 FX3_wakeSleepers_oc1_28
    refine sf_if (fun c1 => ?_) (fun c1 => ?_)
    · have f2 : iv 4 4 x4 := iv_ler f_x4 (iv_lit (lo := 4) (hi := 4) (x := 4) rfl) c1 rfl
      have I3 : IC z (hs h 25 16 3) := ICs I (k := 25) (i := 16) (v := 3) (iv_w (c := 0) (d := 4) (iv_lit (lo := 3) (hi := 3) (x := 3) rfl) rfl) rfl
      exact ⟨trivial, QC_mk (iv_w (c := 0) (d := 6) (iv_lit (lo := 0) (hi := 0) (x := 0) rfl) rfl) I3⟩
    · have f4 : iv 0 3 x4 := iv_ltl f_x4 (iv_lit (lo := 4) (hi := 4) (x := 4) rfl) (nle c1) rfl
      refine sf_n (iv_in f4 rfl) ?_
      refine sf_if (fun c5 => ?_) (fun c5 => ?_)
      · have f6 : iv 2 2 (h 29 (x4.toNatClampNeg)) := iv_eql (iv_any (h 29 (x4.toNatClampNeg))) (iv_lit (lo := 2) (hi := 2) (x := 2) rfl) c5 rfl
        refine sf_n (iv_in f4 rfl) ?_
        have f7 : iv 0 11 (h 30 (x4.toNatClampNeg)) := ICv I 30 _
        refine sf_if (fun c8 => ?_) (fun c8 => ?_)
        · refine sf_n (iv_in f4 rfl) ?_
          have I9 : IC z (hs h 29 x4.toNatClampNeg 3) := ICs I (k := 29) (i := x4.toNatClampNeg) (v := 3) (iv_any 3) rfl
          unfold PX3_wakeSleepers_oc1_64 FX3_wakeSleepers_oc1_64
          have f10 : iv 1 4 (x4 + 1) := iv_add f4 (iv_lit (lo := 1) (hi := 1) (x := 1) rfl) rfl
          exact ih x3 (x4 + 1) (hs h 29 x4.toNatClampNeg 3) I9 f_x3 (iv_w (c := 0) (d := 4) f10 rfl) (mu_up f4 mq rfl)
        · unfold PX3_wakeSleepers_oc1_64 FX3_wakeSleepers_oc1_64
          have f11 : iv 1 4 (x4 + 1) := iv_add f4 (iv_lit (lo := 1) (hi := 1) (x := 1) rfl) rfl
          exact ih x3 (x4 + 1) h I f_x3 (iv_w (c := 0) (d := 4) f11 rfl) (mu_up f4 mq rfl)
      · unfold PX3_wakeSleepers_oc1_64 FX3_wakeSleepers_oc1_64
        have f12 : iv 1 4 (x4 + 1) := iv_add f4 (iv_lit (lo := 1) (hi := 1) (x := 1) rfl) rfl
        exact ih x3 (x4 + 1) h I f_x3 (iv_w (c := 0) (d := 4) f12 rfl) (mu_up f4 mq rfl)
set_option maxRecDepth 100000 in
set_option maxHeartbeats 4000000 in
theorem SX3_wakeSleepers_oc1 {z : zT} (a0 : Int32) (a1 : Int32) (h : ph_H) (I : IC z h) (f_a1 : iv 0 27 a1) : PX3_wakeSleepers_oc1 a0 a1 h ∧ QC z 0 6 (FX3_wakeSleepers_oc1 a0 a1 h) := by
  unfold PX3_wakeSleepers_oc1 FX3_wakeSleepers_oc1
  have s1 := SX3_gateIn_oc1 (z := z) a1 h I f_a1
  refine sf_n s1.1 ?_
  refine sf_if (fun c2 => ?_) (fun c2 => ?_)
  · have f3 : iv 0 11 (FX3_gateIn_oc1 a1 h) := iv_ler s1.2 (iv_lit (lo := 0) (hi := 0) (x := 0) rfl) c2 rfl
    refine sf_n (iv_in f3 rfl) ?_
    refine sf_if (fun c4 => ?_) (fun c4 => ?_)
    · exact SX3_wakeSleepers_oc1_28 2000 (FX3_gateIn_oc1 a1 h) 0 h I f3 (iv_w (c := 0) (d := 4) (iv_lit (lo := 0) (hi := 0) (x := 0) rfl) rfl) (mu_0u (iv_lit (lo := 0) (hi := 0) (x := 0) rfl) rfl)
    · exact ⟨trivial, QC_mk (iv_w (c := 0) (d := 6) (iv_lit (lo := 6) (hi := 6) (x := 6) rfl) rfl) I⟩
  · have f5 : iv (-1) (-1) (FX3_gateIn_oc1 a1 h) := iv_ltl s1.2 (iv_lit (lo := 0) (hi := 0) (x := 0) rfl) (nle c2) rfl
    exact ⟨trivial, QC_mk (iv_w (c := 0) (d := 6) (iv_lit (lo := 1) (hi := 1) (x := 1) rfl) rfl) I⟩

-- X3_writeRow_oc1
set_option maxRecDepth 100000 in
set_option maxHeartbeats 4000000 in
theorem SX3_writeRow_oc1 {z : zT} (a0 : Int32) (a1 : Int32) (a2 : Int32) (h : ph_H) (I : IC z h) (f_a0 : iv 0 27 a0) (f_a1 : iv 0 27 a1) (f_a2 : iv 0 27 a2) : PX3_writeRow_oc1 a0 a1 a2 h ∧ QC z 0 4 (FX3_writeRow_oc1 a0 a1 a2 h) := by
  unfold PX3_writeRow_oc1 FX3_writeRow_oc1
  refine sf_n (iv_in f_a0 rfl) ?_
  have f1 : iv 0 3 (h 26 (a0.toNatClampNeg)) := ICv I 26 _
  refine sf_if (fun c2 => ?_) (fun c2 => ?_)
  · have f3 : iv 1 1 (h 26 (a0.toNatClampNeg)) := iv_eql f1 (iv_lit (lo := 1) (hi := 1) (x := 1) rfl) c2 rfl
    have f4 : iv 0 11 (h 27 (a0.toNatClampNeg)) := KVn_o I f3 rfl
    have s5 := SX3_bothNumbers_oc1 (z := z) a1 a2 h I f_a1 f_a2
    refine sf_n s5.1 ?_
    refine sf_if (fun c6 => ?_) (fun c6 => ?_)
    · have f7 : iv 0 0 (FX3_bothNumbers_oc1 a1 a2 h) := iv_eql s5.2 (iv_lit (lo := 0) (hi := 0) (x := 0) rfl) c6 rfl
      exact ⟨trivial, QC_mk (iv_w (c := 0) (d := 4) (iv_lit (lo := 1) (hi := 1) (x := 1) rfl) rfl) I⟩
    · have f8 : iv 1 1 (FX3_bothNumbers_oc1 a1 a2 h) := iv_nel s5.2 c6 rfl
      refine sf_n (iv_in f_a0 rfl) ?_
      refine sf_n (iv_in f_a1 rfl) ?_
      have s9 := SX3_hasRowPlace_oc1 (z := z) (h 27 (a0.toNatClampNeg)) (h 27 (a1.toNatClampNeg)) h I
      refine sf_n s9.1 ?_
      refine sf_if (fun c10 => ?_) (fun c10 => ?_)
      · have f11 : iv 0 0 (FX3_hasRowPlace_oc1 (h 27 (a0.toNatClampNeg)) (h 27 (a1.toNatClampNeg)) h) := iv_eql s9.2.1 (iv_lit (lo := 0) (hi := 0) (x := 0) rfl) c10 rfl
        exact ⟨trivial, QC_mk (iv_w (c := 0) (d := 4) (iv_lit (lo := 4) (hi := 4) (x := 4) rfl) rfl) I⟩
      · have f12 : iv 0 15 (h 27 (a1.toNatClampNeg)) := iv_and (iv_any _) (s9.2.2 c10).2 rfl
        have f13 : iv 1 1 (FX3_hasRowPlace_oc1 (h 27 (a0.toNatClampNeg)) (h 27 (a1.toNatClampNeg)) h) := iv_nel s9.2.1 c10 rfl
        have f14 : iv 0 220 ((h 27 (a0.toNatClampNeg)) * 20) := iv_mulr (c := 20) rfl f4 rfl
        have f15 : iv 100 320 (100 + ((h 27 (a0.toNatClampNeg)) * 20)) := iv_add (iv_lit (lo := 100) (hi := 100) (x := 100) rfl) f14 rfl
        have f16 : iv 100 335 ((100 + ((h 27 (a0.toNatClampNeg)) * 20)) + (h 27 (a1.toNatClampNeg))) := iv_add f15 f12 rfl
        have I17 : IC z (hs h 25 15 ((100 + ((h 27 (a0.toNatClampNeg)) * 20)) + (h 27 (a1.toNatClampNeg)))) := ICs I (k := 25) (i := 15) (v := ((100 + ((h 27 (a0.toNatClampNeg)) * 20)) + (h 27 (a1.toNatClampNeg)))) (iv_any ((100 + ((h 27 (a0.toNatClampNeg)) * 20)) + (h 27 (a1.toNatClampNeg)))) rfl
        have f18 : iv 0 176 ((h 27 (a0.toNatClampNeg)) * 16) := iv_mulr (c := 16) rfl f4 rfl
        have f19 : iv 0 191 (((h 27 (a0.toNatClampNeg)) * 16) + (h 27 (a1.toNatClampNeg))) := iv_add f18 f12 rfl
        refine sf_n (iv_in f_a2 rfl) ?_
        refine sf_n (iv_in f19 rfl) ?_
        have I20 : IC z (hs (hs h 25 15 ((100 + ((h 27 (a0.toNatClampNeg)) * 20)) + (h 27 (a1.toNatClampNeg)))) 34 (((h 27 (a0.toNatClampNeg)) * 16) + (h 27 (a1.toNatClampNeg))).toNatClampNeg (h 27 (a2.toNatClampNeg))) := ICs I17 (k := 34) (i := (((h 27 (a0.toNatClampNeg)) * 16) + (h 27 (a1.toNatClampNeg))).toNatClampNeg) (v := (h 27 (a2.toNatClampNeg))) (iv_any (h 27 (a2.toNatClampNeg))) rfl
        exact ⟨trivial, QC_mk (iv_w (c := 0) (d := 4) (iv_lit (lo := 0) (hi := 0) (x := 0) rfl) rfl) I20⟩
  · exact ⟨trivial, QC_mk (iv_w (c := 0) (d := 4) (iv_lit (lo := 1) (hi := 1) (x := 1) rfl) rfl) I⟩

-- X3_perform_oc1
set_option maxRecDepth 100000 in
set_option maxHeartbeats 4000000 in
theorem SX3_perform_oc1 {z : zT} (a0 : Int32) (h : ph_H) (I : IC z h) (f_a0 : iv 0 3 a0) (e_0 : iv 0 23 (h 28 (a0.toNatClampNeg))) : PX3_perform_oc1 a0 h ∧ QC z 0 19 (FX3_perform_oc1 a0 h) := by
  unfold PX3_perform_oc1 FX3_perform_oc1
  refine sf_n (iv_in f_a0 rfl) ?_
  have s1 := SX5_firstPart_n (z := z) a0 (h 28 (a0.toNatClampNeg)) h I f_a0 e_0
  refine sf_n s1.1 ?_
  have f2 : iv 1 381 ((FX5_firstPart_n a0 (h 28 (a0.toNatClampNeg)) h) + 1) := iv_add s1.2 (iv_lit (lo := 1) (hi := 1) (x := 1) rfl) rfl
  refine sf_n (iv_in f2 rfl) ?_
  have f3 : iv 2 382 ((FX5_firstPart_n a0 (h 28 (a0.toNatClampNeg)) h) + 2) := iv_add s1.2 (iv_lit (lo := 2) (hi := 2) (x := 2) rfl) rfl
  refine sf_n (iv_in f3 rfl) ?_
  have s4 := SX3_slotOf a0 (h 3 (((FX5_firstPart_n a0 (h 28 (a0.toNatClampNeg)) h) + 1).toNatClampNeg)) f_a0
  refine sf_n s4.1 ?_
  have s5 := SX3_slotOf a0 (h 3 (((FX5_firstPart_n a0 (h 28 (a0.toNatClampNeg)) h) + 2).toNatClampNeg)) f_a0
  refine sf_n s5.1 ?_
  have f6 : iv 3 383 ((FX5_firstPart_n a0 (h 28 (a0.toNatClampNeg)) h) + 3) := iv_add s1.2 (iv_lit (lo := 3) (hi := 3) (x := 3) rfl) rfl
  refine sf_n (iv_in f6 rfl) ?_
  have s7 := SX3_slotOf a0 (h 3 (((FX5_firstPart_n a0 (h 28 (a0.toNatClampNeg)) h) + 3).toNatClampNeg)) f_a0
  refine sf_n s7.1 ?_
  refine sf_n (iv_in s1.2 rfl) ?_
  refine sf_if (fun c8 => ?_) (fun c8 => ?_)
  · have f9 : iv 0 0 (h 3 ((FX5_firstPart_n a0 (h 28 (a0.toNatClampNeg)) h).toNatClampNeg)) := iv_eql (iv_any (h 3 ((FX5_firstPart_n a0 (h 28 (a0.toNatClampNeg)) h).toNatClampNeg))) (iv_lit (lo := 0) (hi := 0) (x := 0) rfl) c8 rfl
    have s10 := SX3_hold_oc1 (z := z) (FX3_slotOf a0 (h 3 (((FX5_firstPart_n a0 (h 28 (a0.toNatClampNeg)) h) + 1).toNatClampNeg))) 0 (h 3 (((FX5_firstPart_n a0 (h 28 (a0.toNatClampNeg)) h) + 2).toNatClampNeg)) h I (iv_w (c := 0) (d := 27) s4.2 rfl) (iv_w (c := 0) (d := 3) (iv_lit (lo := 0) (hi := 0) (x := 0) rfl) rfl) (Or.inl rfl)
    refine sf_n s10.1 ?_
    exact ⟨trivial, QC_mk (iv_w (c := 0) (d := 19) s10.2.1 rfl) s10.2.2⟩
  refine sf_if (fun c11 => ?_) (fun c11 => ?_)
  · have f12 : iv 1 1 (h 3 ((FX5_firstPart_n a0 (h 28 (a0.toNatClampNeg)) h).toNatClampNeg)) := iv_eql (iv_any (h 3 ((FX5_firstPart_n a0 (h 28 (a0.toNatClampNeg)) h).toNatClampNeg))) (iv_lit (lo := 1) (hi := 1) (x := 1) rfl) c11 rfl
    refine sf_n (fmod_p (m := 12) (by decide) (by decide)) ?_
    have f13 : iv 0 11 (FJ9_floorMod_7cf53 (h 3 (((FX5_firstPart_n a0 (h 28 (a0.toNatClampNeg)) h) + 2).toNatClampNeg)) 12) := fmod_iv (m := 12) rfl
    have s14 := SX3_getCell_oc1 (z := z) (FX3_slotOf a0 (h 3 (((FX5_firstPart_n a0 (h 28 (a0.toNatClampNeg)) h) + 1).toNatClampNeg))) (FJ9_floorMod_7cf53 (h 3 (((FX5_firstPart_n a0 (h 28 (a0.toNatClampNeg)) h) + 2).toNatClampNeg)) 12) h I (iv_w (c := 0) (d := 27) s4.2 rfl) f13
    refine sf_n s14.1 ?_
    exact ⟨trivial, QC_mk (iv_w (c := 0) (d := 19) s14.2.1 rfl) s14.2.2⟩
  refine sf_if (fun c15 => ?_) (fun c15 => ?_)
  · have f16 : iv 2 2 (h 3 ((FX5_firstPart_n a0 (h 28 (a0.toNatClampNeg)) h).toNatClampNeg)) := iv_eql (iv_any (h 3 ((FX5_firstPart_n a0 (h 28 (a0.toNatClampNeg)) h).toNatClampNeg))) (iv_lit (lo := 2) (hi := 2) (x := 2) rfl) c15 rfl
    refine sf_n (fmod_p (m := 12) (by decide) (by decide)) ?_
    have f17 : iv 0 11 (FJ9_floorMod_7cf53 (h 3 (((FX5_firstPart_n a0 (h 28 (a0.toNatClampNeg)) h) + 1).toNatClampNeg)) 12) := fmod_iv (m := 12) rfl
    have s18 := SX3_putCell_oc1 (z := z) (FJ9_floorMod_7cf53 (h 3 (((FX5_firstPart_n a0 (h 28 (a0.toNatClampNeg)) h) + 1).toNatClampNeg)) 12) (FX3_slotOf a0 (h 3 (((FX5_firstPart_n a0 (h 28 (a0.toNatClampNeg)) h) + 2).toNatClampNeg))) h I f17 (iv_w (c := 0) (d := 27) s5.2 rfl)
    refine sf_n s18.1 ?_
    exact ⟨trivial, QC_mk (iv_w (c := 0) (d := 19) s18.2.1 rfl) s18.2.2⟩
  refine sf_if (fun c19 => ?_) (fun c19 => ?_)
  · have f20 : iv 3 3 (h 3 ((FX5_firstPart_n a0 (h 28 (a0.toNatClampNeg)) h).toNatClampNeg)) := iv_eql (iv_any (h 3 ((FX5_firstPart_n a0 (h 28 (a0.toNatClampNeg)) h).toNatClampNeg))) (iv_lit (lo := 3) (hi := 3) (x := 3) rfl) c19 rfl
    refine sf_n (iv_in s1.2 rfl) ?_
    have s21 := SX3_reckon_oc1 (z := z) (h 3 ((FX5_firstPart_n a0 (h 28 (a0.toNatClampNeg)) h).toNatClampNeg)) (FX3_slotOf a0 (h 3 (((FX5_firstPart_n a0 (h 28 (a0.toNatClampNeg)) h) + 1).toNatClampNeg))) (FX3_slotOf a0 (h 3 (((FX5_firstPart_n a0 (h 28 (a0.toNatClampNeg)) h) + 2).toNatClampNeg))) h I (iv_w (c := 0) (d := 27) s4.2 rfl) (iv_w (c := 0) (d := 27) s5.2 rfl)
    refine sf_n s21.1 ?_
    exact ⟨trivial, QC_mk (iv_w (c := 0) (d := 19) s21.2.1 rfl) s21.2.2⟩
  refine sf_if (fun c22 => ?_) (fun c22 => ?_)
  · have f23 : iv 4 4 (h 3 ((FX5_firstPart_n a0 (h 28 (a0.toNatClampNeg)) h).toNatClampNeg)) := iv_eql (iv_any (h 3 ((FX5_firstPart_n a0 (h 28 (a0.toNatClampNeg)) h).toNatClampNeg))) (iv_lit (lo := 4) (hi := 4) (x := 4) rfl) c22 rfl
    refine sf_n (iv_in s1.2 rfl) ?_
    have s24 := SX3_reckon_oc1 (z := z) (h 3 ((FX5_firstPart_n a0 (h 28 (a0.toNatClampNeg)) h).toNatClampNeg)) (FX3_slotOf a0 (h 3 (((FX5_firstPart_n a0 (h 28 (a0.toNatClampNeg)) h) + 1).toNatClampNeg))) (FX3_slotOf a0 (h 3 (((FX5_firstPart_n a0 (h 28 (a0.toNatClampNeg)) h) + 2).toNatClampNeg))) h I (iv_w (c := 0) (d := 27) s4.2 rfl) (iv_w (c := 0) (d := 27) s5.2 rfl)
    refine sf_n s24.1 ?_
    exact ⟨trivial, QC_mk (iv_w (c := 0) (d := 19) s24.2.1 rfl) s24.2.2⟩
  refine sf_if (fun c25 => ?_) (fun c25 => ?_)
  · have f26 : iv 5 5 (h 3 ((FX5_firstPart_n a0 (h 28 (a0.toNatClampNeg)) h).toNatClampNeg)) := iv_eql (iv_any (h 3 ((FX5_firstPart_n a0 (h 28 (a0.toNatClampNeg)) h).toNatClampNeg))) (iv_lit (lo := 5) (hi := 5) (x := 5) rfl) c25 rfl
    refine sf_n (iv_in s1.2 rfl) ?_
    have s27 := SX3_reckon_oc1 (z := z) (h 3 ((FX5_firstPart_n a0 (h 28 (a0.toNatClampNeg)) h).toNatClampNeg)) (FX3_slotOf a0 (h 3 (((FX5_firstPart_n a0 (h 28 (a0.toNatClampNeg)) h) + 1).toNatClampNeg))) (FX3_slotOf a0 (h 3 (((FX5_firstPart_n a0 (h 28 (a0.toNatClampNeg)) h) + 2).toNatClampNeg))) h I (iv_w (c := 0) (d := 27) s4.2 rfl) (iv_w (c := 0) (d := 27) s5.2 rfl)
    refine sf_n s27.1 ?_
    exact ⟨trivial, QC_mk (iv_w (c := 0) (d := 19) s27.2.1 rfl) s27.2.2⟩
  refine sf_if (fun c28 => ?_) (fun c28 => ?_)
  · have f29 : iv 6 6 (h 3 ((FX5_firstPart_n a0 (h 28 (a0.toNatClampNeg)) h).toNatClampNeg)) := iv_eql (iv_any (h 3 ((FX5_firstPart_n a0 (h 28 (a0.toNatClampNeg)) h).toNatClampNeg))) (iv_lit (lo := 6) (hi := 6) (x := 6) rfl) c28 rfl
    have s30 := SX3_goTo_oc1 (z := z) (h 3 (((FX5_firstPart_n a0 (h 28 (a0.toNatClampNeg)) h) + 1).toNatClampNeg)) h I
    refine sf_n s30.1 ?_
    exact ⟨trivial, QC_mk (iv_w (c := 0) (d := 19) s30.2.1 rfl) s30.2.2⟩
  refine sf_if (fun c31 => ?_) (fun c31 => ?_)
  · have f32 : iv 7 7 (h 3 ((FX5_firstPart_n a0 (h 28 (a0.toNatClampNeg)) h).toNatClampNeg)) := iv_eql (iv_any (h 3 ((FX5_firstPart_n a0 (h 28 (a0.toNatClampNeg)) h).toNatClampNeg))) (iv_lit (lo := 7) (hi := 7) (x := 7) rfl) c31 rfl
    have s33 := SX3_goUnless_oc1 (z := z) (FX3_slotOf a0 (h 3 (((FX5_firstPart_n a0 (h 28 (a0.toNatClampNeg)) h) + 1).toNatClampNeg))) (h 3 (((FX5_firstPart_n a0 (h 28 (a0.toNatClampNeg)) h) + 2).toNatClampNeg)) h I (iv_w (c := 0) (d := 27) s4.2 rfl)
    refine sf_n s33.1 ?_
    exact ⟨trivial, QC_mk (iv_w (c := 0) (d := 19) s33.2.1 rfl) s33.2.2⟩
  refine sf_if (fun c34 => ?_) (fun c34 => ?_)
  · have f35 : iv 8 8 (h 3 ((FX5_firstPart_n a0 (h 28 (a0.toNatClampNeg)) h).toNatClampNeg)) := iv_eql (iv_any (h 3 ((FX5_firstPart_n a0 (h 28 (a0.toNatClampNeg)) h).toNatClampNeg))) (iv_lit (lo := 8) (hi := 8) (x := 8) rfl) c34 rfl
    have s36 := SX3_makeRow_oc1 (z := z) (FX3_slotOf a0 (h 3 (((FX5_firstPart_n a0 (h 28 (a0.toNatClampNeg)) h) + 1).toNatClampNeg))) (FX3_slotOf a0 (h 3 (((FX5_firstPart_n a0 (h 28 (a0.toNatClampNeg)) h) + 2).toNatClampNeg))) h I (iv_w (c := 0) (d := 27) s4.2 rfl) (iv_w (c := 0) (d := 27) s5.2 rfl)
    refine sf_n s36.1 ?_
    exact ⟨trivial, QC_mk (iv_w (c := 0) (d := 19) s36.2.1 rfl) s36.2.2⟩
  refine sf_if (fun c37 => ?_) (fun c37 => ?_)
  · have f38 : iv 9 9 (h 3 ((FX5_firstPart_n a0 (h 28 (a0.toNatClampNeg)) h).toNatClampNeg)) := iv_eql (iv_any (h 3 ((FX5_firstPart_n a0 (h 28 (a0.toNatClampNeg)) h).toNatClampNeg))) (iv_lit (lo := 9) (hi := 9) (x := 9) rfl) c37 rfl
    have s39 := SX3_readRow_oc1 (z := z) (FX3_slotOf a0 (h 3 (((FX5_firstPart_n a0 (h 28 (a0.toNatClampNeg)) h) + 1).toNatClampNeg))) (FX3_slotOf a0 (h 3 (((FX5_firstPart_n a0 (h 28 (a0.toNatClampNeg)) h) + 2).toNatClampNeg))) (FX3_slotOf a0 (h 3 (((FX5_firstPart_n a0 (h 28 (a0.toNatClampNeg)) h) + 3).toNatClampNeg))) h I (iv_w (c := 0) (d := 27) s4.2 rfl) (iv_w (c := 0) (d := 27) s5.2 rfl) (iv_w (c := 0) (d := 27) s7.2 rfl)
    refine sf_n s39.1 ?_
    exact ⟨trivial, QC_mk (iv_w (c := 0) (d := 19) s39.2.1 rfl) s39.2.2⟩
  refine sf_if (fun c40 => ?_) (fun c40 => ?_)
  · have f41 : iv 10 10 (h 3 ((FX5_firstPart_n a0 (h 28 (a0.toNatClampNeg)) h).toNatClampNeg)) := iv_eql (iv_any (h 3 ((FX5_firstPart_n a0 (h 28 (a0.toNatClampNeg)) h).toNatClampNeg))) (iv_lit (lo := 10) (hi := 10) (x := 10) rfl) c40 rfl
    have s42 := SX3_writeRow_oc1 (z := z) (FX3_slotOf a0 (h 3 (((FX5_firstPart_n a0 (h 28 (a0.toNatClampNeg)) h) + 1).toNatClampNeg))) (FX3_slotOf a0 (h 3 (((FX5_firstPart_n a0 (h 28 (a0.toNatClampNeg)) h) + 2).toNatClampNeg))) (FX3_slotOf a0 (h 3 (((FX5_firstPart_n a0 (h 28 (a0.toNatClampNeg)) h) + 3).toNatClampNeg))) h I (iv_w (c := 0) (d := 27) s4.2 rfl) (iv_w (c := 0) (d := 27) s5.2 rfl) (iv_w (c := 0) (d := 27) s7.2 rfl)
    refine sf_n s42.1 ?_
    exact ⟨trivial, QC_mk (iv_w (c := 0) (d := 19) s42.2.1 rfl) s42.2.2⟩
  refine sf_if (fun c43 => ?_) (fun c43 => ?_)
  · have f44 : iv 11 11 (h 3 ((FX5_firstPart_n a0 (h 28 (a0.toNatClampNeg)) h).toNatClampNeg)) := iv_eql (iv_any (h 3 ((FX5_firstPart_n a0 (h 28 (a0.toNatClampNeg)) h).toNatClampNeg))) (iv_lit (lo := 11) (hi := 11) (x := 11) rfl) c43 rfl
    refine sf_if (fun c45 => ?_) (fun c45 => ?_)
    · have f46 : iv 0 0 ((h 3 (((FX5_firstPart_n a0 (h 28 (a0.toNatClampNeg)) h) + 2).toNatClampNeg)) &&& 1) := iv_eql (iv_any ((h 3 (((FX5_firstPart_n a0 (h 28 (a0.toNatClampNeg)) h) + 2).toNatClampNeg)) &&& 1)) (iv_lit (lo := 0) (hi := 0) (x := 0) rfl) c45 rfl
      unfold PX3_perform_oc1_288 FX3_perform_oc1_288
      have s47 := SX3_makeLock_oc1 (z := z) (FX3_slotOf a0 (h 3 (((FX5_firstPart_n a0 (h 28 (a0.toNatClampNeg)) h) + 1).toNatClampNeg))) 0 h I (iv_w (c := 0) (d := 27) s4.2 rfl) (iv_w (c := 0) (d := 1) (iv_lit (lo := 0) (hi := 0) (x := 0) rfl) rfl)
      refine sf_n s47.1 ?_
      exact ⟨trivial, QC_mk (iv_w (c := 0) (d := 19) s47.2.1 rfl) s47.2.2⟩
    · unfold PX3_perform_oc1_288 FX3_perform_oc1_288
      have s48 := SX3_makeLock_oc1 (z := z) (FX3_slotOf a0 (h 3 (((FX5_firstPart_n a0 (h 28 (a0.toNatClampNeg)) h) + 1).toNatClampNeg))) 1 h I (iv_w (c := 0) (d := 27) s4.2 rfl) (iv_w (c := 0) (d := 1) (iv_lit (lo := 1) (hi := 1) (x := 1) rfl) rfl)
      refine sf_n s48.1 ?_
      exact ⟨trivial, QC_mk (iv_w (c := 0) (d := 19) s48.2.1 rfl) s48.2.2⟩
  refine sf_if (fun c49 => ?_) (fun c49 => ?_)
  · have f50 : iv 12 12 (h 3 ((FX5_firstPart_n a0 (h 28 (a0.toNatClampNeg)) h).toNatClampNeg)) := iv_eql (iv_any (h 3 ((FX5_firstPart_n a0 (h 28 (a0.toNatClampNeg)) h).toNatClampNeg))) (iv_lit (lo := 12) (hi := 12) (x := 12) rfl) c49 rfl
    have s51 := SX3_takeLock_oc1 (z := z) a0 (FX3_slotOf a0 (h 3 (((FX5_firstPart_n a0 (h 28 (a0.toNatClampNeg)) h) + 1).toNatClampNeg))) h I f_a0 (iv_w (c := 0) (d := 27) s4.2 rfl)
    refine sf_n s51.1 ?_
    exact ⟨trivial, QC_mk (iv_w (c := 0) (d := 19) s51.2.1 rfl) s51.2.2⟩
  refine sf_if (fun c52 => ?_) (fun c52 => ?_)
  · have f53 : iv 13 13 (h 3 ((FX5_firstPart_n a0 (h 28 (a0.toNatClampNeg)) h).toNatClampNeg)) := iv_eql (iv_any (h 3 ((FX5_firstPart_n a0 (h 28 (a0.toNatClampNeg)) h).toNatClampNeg))) (iv_lit (lo := 13) (hi := 13) (x := 13) rfl) c52 rfl
    have s54 := SX3_leaveLock_oc1 (z := z) a0 (FX3_slotOf a0 (h 3 (((FX5_firstPart_n a0 (h 28 (a0.toNatClampNeg)) h) + 1).toNatClampNeg))) h I (iv_w (c := 0) (d := 27) s4.2 rfl)
    refine sf_n s54.1 ?_
    exact ⟨trivial, QC_mk (iv_w (c := 0) (d := 19) s54.2.1 rfl) s54.2.2⟩
  refine sf_if (fun c55 => ?_) (fun c55 => ?_)
  · have f56 : iv 14 14 (h 3 ((FX5_firstPart_n a0 (h 28 (a0.toNatClampNeg)) h).toNatClampNeg)) := iv_eql (iv_any (h 3 ((FX5_firstPart_n a0 (h 28 (a0.toNatClampNeg)) h).toNatClampNeg))) (iv_lit (lo := 14) (hi := 14) (x := 14) rfl) c55 rfl
    have s57 := SX3_lieDown_oc1 (z := z) a0 (FX3_slotOf a0 (h 3 (((FX5_firstPart_n a0 (h 28 (a0.toNatClampNeg)) h) + 1).toNatClampNeg))) h I f_a0 (iv_w (c := 0) (d := 27) s4.2 rfl)
    refine sf_n s57.1 ?_
    exact ⟨trivial, QC_mk (iv_w (c := 0) (d := 19) s57.2.1 rfl) s57.2.2⟩
  refine sf_if (fun c58 => ?_) (fun c58 => ?_)
  · have f59 : iv 15 15 (h 3 ((FX5_firstPart_n a0 (h 28 (a0.toNatClampNeg)) h).toNatClampNeg)) := iv_eql (iv_any (h 3 ((FX5_firstPart_n a0 (h 28 (a0.toNatClampNeg)) h).toNatClampNeg))) (iv_lit (lo := 15) (hi := 15) (x := 15) rfl) c58 rfl
    have s60 := SX3_wakeSleepers_oc1 (z := z) a0 (FX3_slotOf a0 (h 3 (((FX5_firstPart_n a0 (h 28 (a0.toNatClampNeg)) h) + 1).toNatClampNeg))) h I (iv_w (c := 0) (d := 27) s4.2 rfl)
    refine sf_n s60.1 ?_
    exact ⟨trivial, QC_mk (iv_w (c := 0) (d := 19) s60.2.1 rfl) s60.2.2⟩
  refine sf_if (fun c61 => ?_) (fun c61 => ?_)
  · have f62 : iv 16 16 (h 3 ((FX5_firstPart_n a0 (h 28 (a0.toNatClampNeg)) h).toNatClampNeg)) := iv_eql (iv_any (h 3 ((FX5_firstPart_n a0 (h 28 (a0.toNatClampNeg)) h).toNatClampNeg))) (iv_lit (lo := 16) (hi := 16) (x := 16) rfl) c61 rfl
    have s63 := SX3_takeInput_oc1 (z := z) (FX3_slotOf a0 (h 3 (((FX5_firstPart_n a0 (h 28 (a0.toNatClampNeg)) h) + 1).toNatClampNeg))) h I (iv_w (c := 0) (d := 27) s4.2 rfl)
    refine sf_n s63.1 ?_
    exact ⟨trivial, QC_mk (iv_w (c := 0) (d := 19) s63.2.1 rfl) s63.2.2⟩
  refine sf_if (fun c64 => ?_) (fun c64 => ?_)
  · have f65 : iv 17 17 (h 3 ((FX5_firstPart_n a0 (h 28 (a0.toNatClampNeg)) h).toNatClampNeg)) := iv_eql (iv_any (h 3 ((FX5_firstPart_n a0 (h 28 (a0.toNatClampNeg)) h).toNatClampNeg))) (iv_lit (lo := 17) (hi := 17) (x := 17) rfl) c64 rfl
    refine sf_n (fmod_p (m := 4) (by decide) (by decide)) ?_
    have f66 : iv 0 3 (FJ9_floorMod_7cf53 (h 3 (((FX5_firstPart_n a0 (h 28 (a0.toNatClampNeg)) h) + 1).toNatClampNeg)) 4) := fmod_iv (m := 4) rfl
    have s67 := SX3_startThread_oc1 (z := z) (FJ9_floorMod_7cf53 (h 3 (((FX5_firstPart_n a0 (h 28 (a0.toNatClampNeg)) h) + 1).toNatClampNeg)) 4) h I f66
    refine sf_n s67.1 ?_
    exact ⟨trivial, QC_mk (iv_w (c := 0) (d := 19) s67.2.1 rfl) s67.2.2⟩
  refine sf_if (fun c68 => ?_) (fun c68 => ?_)
  · have f69 : iv 18 18 (h 3 ((FX5_firstPart_n a0 (h 28 (a0.toNatClampNeg)) h).toNatClampNeg)) := iv_eql (iv_any (h 3 ((FX5_firstPart_n a0 (h 28 (a0.toNatClampNeg)) h).toNatClampNeg))) (iv_lit (lo := 18) (hi := 18) (x := 18) rfl) c68 rfl
    refine sf_n (fmod_p (m := 10) (by decide) (by decide)) ?_
    have f70 : iv 0 9 (FJ9_floorMod_7cf53 (h 3 (((FX5_firstPart_n a0 (h 28 (a0.toNatClampNeg)) h) + 2).toNatClampNeg)) 10) := fmod_iv (m := 10) rfl
    have f71 : iv 10 19 (10 + (FJ9_floorMod_7cf53 (h 3 (((FX5_firstPart_n a0 (h 28 (a0.toNatClampNeg)) h) + 2).toNatClampNeg)) 10)) := iv_add (iv_lit (lo := 10) (hi := 10) (x := 10) rfl) f70 rfl
    exact ⟨trivial, QC_mk (iv_w (c := 0) (d := 19) f71 rfl) I⟩
  have s72 := SX3_goTo_oc1 (z := z) 24 h I
  refine sf_n s72.1 ?_
  exact ⟨trivial, QC_mk (iv_w (c := 0) (d := 19) s72.2.1 rfl) s72.2.2⟩

-- X3_rise_oc1
set_option maxRecDepth 100000 in
set_option maxHeartbeats 4000000 in
theorem SX3_rise_oc1 {z : zT} (a0 : Int32) (h : ph_H) (I : IC z h) (f_a0 : iv 0 3 a0) : PX3_rise_oc1 a0 h ∧ QC z 0 0 (FX3_rise_oc1 a0 h) := by
  unfold PX3_rise_oc1 FX3_rise_oc1
  refine sf_n (iv_in f_a0 rfl) ?_
  have I1 : IC z (hs h 29 a0.toNatClampNeg 1) := ICs I (k := 29) (i := a0.toNatClampNeg) (v := 1) (iv_any 1) rfl
  refine sf_n (iv_in f_a0 rfl) ?_
  have f2 : iv 0 11 (h 30 (a0.toNatClampNeg)) := ICv I 30 _
  have s3 := SX3_own_oc1 (z := z) a0 (h 30 (a0.toNatClampNeg)) (hs h 29 a0.toNatClampNeg 1) I1 f2
  refine sf_n s3.1 ?_
  exact ⟨trivial, QC_mk s3.2.1 s3.2.2⟩

-- X3_whoGoes_oc1
set_option maxRecDepth 100000 in
set_option maxHeartbeats 4000000 in
theorem SX3_whoGoes_oc1_21 {z : zT} : ∀ (q : Nat) (x2 : Int32) (h : ph_H), IC z h → iv 0 4 x2 → 4 - (x2).toInt < ((q : Nat) : Int) → PX3_whoGoes_oc1_21  q x2 h ∧ iv (-1) 3 (FX3_whoGoes_oc1_21  q x2 h) := by
  intro q
  induction q with
  | zero =>
    intro x2 h I f_x2 mq
    exact mu_zu f_x2 mq rfl
  | succ q ih =>
    intro x2 h I f_x2 mq
    unfold PX3_whoGoes_oc1_21 FX3_whoGoes_oc1_21
    refine sf_if (fun c1 => ?_) (fun c1 => ?_)
    · have f2 : iv 4 4 x2 := iv_ler f_x2 (iv_lit (lo := 4) (hi := 4) (x := 4) rfl) c1 rfl
      exact ⟨trivial, (iv_w (c := (-1)) (d := 3) (iv_lit (lo := (-1)) (hi := (-1)) (x := (-1)) rfl) rfl)⟩
    · have f3 : iv 0 3 x2 := iv_ltl f_x2 (iv_lit (lo := 4) (hi := 4) (x := 4) rfl) (nle c1) rfl
      have s4 := SX3_canGo_oc1 (z := z) x2 h I f3
      refine sf_n s4.1 ?_
      refine sf_if (fun c5 => ?_) (fun c5 => ?_)
      · have f6 : iv 0 0 (FX3_canGo_oc1 x2 h) := iv_eql s4.2.1 (iv_lit (lo := 0) (hi := 0) (x := 0) rfl) c5 rfl
        have f7 : iv 1 4 (x2 + 1) := iv_add f3 (iv_lit (lo := 1) (hi := 1) (x := 1) rfl) rfl
        exact ih (x2 + 1) h I (iv_w (c := 0) (d := 4) f7 rfl) (mu_up f3 mq rfl)
      · have f8 : iv 0 23 (h 28 (x2.toNatClampNeg)) := iv_and (iv_any _) (s4.2.2 c5) rfl
        have f9 : iv 1 1 (FX3_canGo_oc1 x2 h) := iv_nel s4.2.1 c5 rfl
        exact ⟨trivial, (iv_w (c := (-1)) (d := 3) f3 rfl)⟩
set_option maxRecDepth 100000 in
set_option maxHeartbeats 4000000 in
theorem SX3_whoGoes_oc1 {z : zT} (a0 : Int32) (h : ph_H) (I : IC z h) : PX3_whoGoes_oc1 a0 h ∧ iv (-1) 3 (FX3_whoGoes_oc1 a0 h) := by
  unfold PX3_whoGoes_oc1 FX3_whoGoes_oc1
  refine sf_if (fun c1 => ?_) (fun c1 => ?_)
  · have f2 : iv (-2147483648) (-1) a0 := iv_ltl (iv_any a0) (iv_lit (lo := 0) (hi := 0) (x := 0) rfl) c1 rfl
    unfold PX3_whoGoes_oc1_19 FX3_whoGoes_oc1_19
    exact SX3_whoGoes_oc1_21 2000 0 h I (iv_w (c := 0) (d := 4) (iv_lit (lo := 0) (hi := 0) (x := 0) rfl) rfl) (mu_0u (iv_lit (lo := 0) (hi := 0) (x := 0) rfl) rfl)
  · have f3 : iv 0 2147483647 a0 := iv_ler (iv_any a0) (iv_lit (lo := 0) (hi := 0) (x := 0) rfl) (nlt c1) rfl
    refine sf_if (fun c4 => ?_) (fun c4 => ?_)
    · have f5 : iv 4 2147483647 a0 := iv_ler f3 (iv_lit (lo := 4) (hi := 4) (x := 4) rfl) c4 rfl
      unfold PX3_whoGoes_oc1_19 FX3_whoGoes_oc1_19
      exact SX3_whoGoes_oc1_21 2000 0 h I (iv_w (c := 0) (d := 4) (iv_lit (lo := 0) (hi := 0) (x := 0) rfl) rfl) (mu_0u (iv_lit (lo := 0) (hi := 0) (x := 0) rfl) rfl)
    · have f6 : iv 0 3 a0 := iv_ltl f3 (iv_lit (lo := 4) (hi := 4) (x := 4) rfl) (nle c4) rfl
      have s7 := SX3_canGo_oc1 (z := z) a0 h I f6
      refine sf_n s7.1 ?_
      refine sf_if (fun c8 => ?_) (fun c8 => ?_)
      · have f9 : iv 0 0 (FX3_canGo_oc1 a0 h) := iv_eql s7.2.1 (iv_lit (lo := 0) (hi := 0) (x := 0) rfl) c8 rfl
        unfold PX3_whoGoes_oc1_19 FX3_whoGoes_oc1_19
        exact SX3_whoGoes_oc1_21 2000 0 h I (iv_w (c := 0) (d := 4) (iv_lit (lo := 0) (hi := 0) (x := 0) rfl) rfl) (mu_0u (iv_lit (lo := 0) (hi := 0) (x := 0) rfl) rfl)
      · have f10 : iv 0 23 (h 28 (a0.toNatClampNeg)) := iv_and (iv_any _) (s7.2.2 c8) rfl
        have f11 : iv 1 1 (FX3_canGo_oc1 a0 h) := iv_nel s7.2.1 c8 rfl
        exact ⟨trivial, (iv_w (c := (-1)) (d := 3) f6 rfl)⟩

-- J7_fill_53178_k28
set_option maxRecDepth 100000 in
set_option maxHeartbeats 4000000 in
theorem SJ7_fill_53178_k28_5 {z : zT} : ∀ (q : Nat) (x1 : Int32) (x2 : Int32) (x3 : Int32) (h : ph_H), IC z h → iv 0 4 x2 → iv 4 4 x3 → 4 - (x2).toInt < ((q : Nat) : Int) → PJ7_fill_53178_k28_5  q x1 x2 x3 h ∧ IC z (FJ7_fill_53178_k28_5  q x1 x2 x3 h) := by
  intro q
  induction q with
  | zero =>
    intro x1 x2 x3 h I f_x2 f_x3 mq
    exact mu_zu f_x2 mq rfl
  | succ q ih =>
    intro x1 x2 x3 h I f_x2 f_x3 mq
    unfold PJ7_fill_53178_k28_5 FJ7_fill_53178_k28_5
    refine sf_if (fun c1 => ?_) (fun c1 => ?_)
    · have f2 : iv 4 4 x2 := iv_ler f_x2 f_x3 c1 rfl
      exact ⟨trivial, I⟩
    · have f3 : iv 0 3 x2 := iv_ltl f_x2 f_x3 (nle c1) rfl
      refine sf_n (iv_in f3 rfl) ?_
      have I4 : IC z (hs h 28 x2.toNatClampNeg x1) := ICs I (k := 28) (i := x2.toNatClampNeg) (v := x1) (iv_any x1) rfl
      have f5 : iv 1 4 (x2 + 1) := iv_add f3 (iv_lit (lo := 1) (hi := 1) (x := 1) rfl) rfl
      exact ih x1 (x2 + 1) x3 (hs h 28 x2.toNatClampNeg x1) I4 (iv_w (c := 0) (d := 4) f5 rfl) f_x3 (mu_up f3 mq rfl)
set_option maxRecDepth 100000 in
set_option maxHeartbeats 4000000 in
theorem SJ7_fill_53178_k28 {z : zT} (a1 : Int32) (h : ph_H) (I : IC z h) : PJ7_fill_53178_k28 a1 h ∧ IC z (FJ7_fill_53178_k28 a1 h) := by
  unfold PJ7_fill_53178_k28 FJ7_fill_53178_k28
  exact SJ7_fill_53178_k28_5 2000 a1 0 4 h I (iv_w (c := 0) (d := 4) (iv_lit (lo := 0) (hi := 0) (x := 0) rfl) rfl) (iv_lit (lo := 4) (hi := 4) (x := 4) rfl) (mu_0u (iv_lit (lo := 0) (hi := 0) (x := 0) rfl) rfl)

-- J7_fill_53178_k29
set_option maxRecDepth 100000 in
set_option maxHeartbeats 4000000 in
theorem SJ7_fill_53178_k29_5 {z : zT} : ∀ (q : Nat) (x1 : Int32) (x2 : Int32) (x3 : Int32) (h : ph_H), IC z h → iv 0 4 x2 → iv 4 4 x3 → 4 - (x2).toInt < ((q : Nat) : Int) → PJ7_fill_53178_k29_5  q x1 x2 x3 h ∧ IC z (FJ7_fill_53178_k29_5  q x1 x2 x3 h) := by
  intro q
  induction q with
  | zero =>
    intro x1 x2 x3 h I f_x2 f_x3 mq
    exact mu_zu f_x2 mq rfl
  | succ q ih =>
    intro x1 x2 x3 h I f_x2 f_x3 mq
    unfold PJ7_fill_53178_k29_5 FJ7_fill_53178_k29_5
    refine sf_if (fun c1 => ?_) (fun c1 => ?_)
    · have f2 : iv 4 4 x2 := iv_ler f_x2 f_x3 c1 rfl
      exact ⟨trivial, I⟩
    · have f3 : iv 0 3 x2 := iv_ltl f_x2 f_x3 (nle c1) rfl
      refine sf_n (iv_in f3 rfl) ?_
      have I4 : IC z (hs h 29 x2.toNatClampNeg x1) := ICs I (k := 29) (i := x2.toNatClampNeg) (v := x1) (iv_any x1) rfl
      have f5 : iv 1 4 (x2 + 1) := iv_add f3 (iv_lit (lo := 1) (hi := 1) (x := 1) rfl) rfl
      exact ih x1 (x2 + 1) x3 (hs h 29 x2.toNatClampNeg x1) I4 (iv_w (c := 0) (d := 4) f5 rfl) f_x3 (mu_up f3 mq rfl)
set_option maxRecDepth 100000 in
set_option maxHeartbeats 4000000 in
theorem SJ7_fill_53178_k29 {z : zT} (a1 : Int32) (h : ph_H) (I : IC z h) : PJ7_fill_53178_k29 a1 h ∧ IC z (FJ7_fill_53178_k29 a1 h) := by
  unfold PJ7_fill_53178_k29 FJ7_fill_53178_k29
  exact SJ7_fill_53178_k29_5 2000 a1 0 4 h I (iv_w (c := 0) (d := 4) (iv_lit (lo := 0) (hi := 0) (x := 0) rfl) rfl) (iv_lit (lo := 4) (hi := 4) (x := 4) rfl) (mu_0u (iv_lit (lo := 0) (hi := 0) (x := 0) rfl) rfl)

-- X11_ended
set_option maxRecDepth 100000 in
set_option maxHeartbeats 4000000 in
theorem SX11_ended {z : zT} (h : ph_H) (I : IC z h) : PX11_ended h ∧ iv (-2147483648) 2147483647 (FX11_ended h) := by
  unfold PX11_ended FX11_ended
  exact ⟨trivial, (iv_any (h 0 12))⟩

-- X11_isMoment
set_option maxRecDepth 100000 in
set_option maxHeartbeats 4000000 in
theorem SX11_isMoment {z : zT} (a0 : Int32) (h : ph_H) (I : IC z h) : PX11_isMoment a0 h ∧ Qc 0 1 (fun r => ¬ r = 0 → iv 0 300 a0) (FX11_isMoment a0 h) := by
  unfold PX11_isMoment FX11_isMoment
  refine sf_if (fun c1 => ?_) (fun c1 => ?_)
  · have f2 : iv (-2147483648) (-1) a0 := iv_ltl (iv_any a0) (iv_lit (lo := 0) (hi := 0) (x := 0) rfl) c1 rfl
    exact ⟨trivial, (iv_w (c := 0) (d := 1) (iv_lit (lo := 0) (hi := 0) (x := 0) rfl) rfl), fun z => absurd rfl z⟩
  · have f3 : iv 0 2147483647 a0 := iv_ler (iv_any a0) (iv_lit (lo := 0) (hi := 0) (x := 0) rfl) (nlt c1) rfl
    have f4 : iv 0 300 (h 35 11) := ICv I 35 _
    refine sf_if (fun c5 => ?_) (fun c5 => ?_)
    · have f6 : iv 1 2147483647 a0 := iv_ltr f3 f4 c5 rfl
      exact ⟨trivial, (iv_w (c := 0) (d := 1) (iv_lit (lo := 0) (hi := 0) (x := 0) rfl) rfl), fun z => absurd rfl z⟩
    · have f7 : iv 0 300 a0 := iv_lel f3 f4 (nlt c5) rfl
      exact ⟨trivial, (iv_w (c := 0) (d := 1) (iv_lit (lo := 1) (hi := 1) (x := 1) rfl) rfl), fun _ => f7⟩

-- X11_to
set_option maxRecDepth 100000 in
set_option maxHeartbeats 4000000 in
theorem SX11_to {z : zT} (a0 : Int32) (h : ph_H) (I : IC z h) : PX11_to a0 h ∧ QC z (-2) 300 (FX11_to a0 h) := by
  unfold PX11_to FX11_to
  have f1 : iv 0 1 (h 0 8) := ICv I 0 _
  refine sf_if (fun c2 => ?_) (fun c2 => ?_)
  · have f3 : iv 0 0 (h 0 8) := iv_eql f1 (iv_lit (lo := 0) (hi := 0) (x := 0) rfl) c2 rfl
    exact ⟨trivial, QC_mk (iv_w (c := (-2)) (d := 300) (iv_lit (lo := (-2)) (hi := (-2)) (x := (-2)) rfl) rfl) I⟩
  · have f4 : iv 1 1 (h 0 8) := iv_nel f1 c2 rfl
    have s5 := SX11_isMoment (z := z) a0 h I
    refine sf_n s5.1 ?_
    refine sf_if (fun c6 => ?_) (fun c6 => ?_)
    · have f7 : iv 0 0 (FX11_isMoment a0 h) := iv_eql s5.2.1 (iv_lit (lo := 0) (hi := 0) (x := 0) rfl) c6 rfl
      exact ⟨trivial, QC_mk (iv_w (c := (-2)) (d := 300) (iv_lit (lo := (-1)) (hi := (-1)) (x := (-1)) rfl) rfl) I⟩
    · have f8 : iv 0 300 a0 := iv_and (iv_any _) (s5.2.2 c6) rfl
      have f9 : iv 1 1 (FX11_isMoment a0 h) := iv_nel s5.2.1 c6 rfl
      have I10 : IC z (hs h 0 10 a0) := ICs I (k := 0) (i := 10) (v := a0) f8 rfl
      exact ⟨trivial, QC_mk (iv_w (c := (-2)) (d := 300) f8 rfl) I10⟩

-- X11_back
set_option maxRecDepth 100000 in
set_option maxHeartbeats 4000000 in
theorem SX11_back {z : zT} (a0 : Int32) (h : ph_H) (I : IC z h) : PX11_back a0 h ∧ QC z (-2) 300 (FX11_back a0 h) := by
  unfold PX11_back FX11_back
  have f1 : iv 0 1 (h 0 8) := ICv I 0 _
  refine sf_if (fun c2 => ?_) (fun c2 => ?_)
  · have f3 : iv 0 0 (h 0 8) := iv_eql f1 (iv_lit (lo := 0) (hi := 0) (x := 0) rfl) c2 rfl
    exact ⟨trivial, QC_mk (iv_w (c := (-2)) (d := 300) (iv_lit (lo := (-2)) (hi := (-2)) (x := (-2)) rfl) rfl) I⟩
  · have f4 : iv 1 1 (h 0 8) := iv_nel f1 c2 rfl
    refine sf_if (fun c5 => ?_) (fun c5 => ?_)
    · have f6 : iv (-2147483648) (-1) a0 := iv_ltl (iv_any a0) (iv_lit (lo := 0) (hi := 0) (x := 0) rfl) c5 rfl
      exact ⟨trivial, QC_mk (iv_w (c := (-2)) (d := 300) (iv_lit (lo := (-1)) (hi := (-1)) (x := (-1)) rfl) rfl) I⟩
    · have f7 : iv 0 2147483647 a0 := iv_ler (iv_any a0) (iv_lit (lo := 0) (hi := 0) (x := 0) rfl) (nlt c5) rfl
      have f8 : iv 0 300 (h 0 10) := ICv I 0 _
      refine sf_if (fun c9 => ?_) (fun c9 => ?_)
      · have f10 : iv 0 300 a0 := iv_lel f7 f8 c9 rfl
        have f11 : iv 0 300 ((h 0 10) - a0) := iv_subo f8 f10 c9 rfl
        have I12 : IC z (hs h 0 10 ((h 0 10) - a0)) := ICs I (k := 0) (i := 10) (v := ((h 0 10) - a0)) f11 rfl
        exact ⟨trivial, QC_mk (iv_w (c := (-2)) (d := 300) f11 rfl) I12⟩
      · have f13 : iv 1 2147483647 a0 := iv_ltr f7 f8 (nle c9) rfl
        exact ⟨trivial, QC_mk (iv_w (c := (-2)) (d := 300) (iv_lit (lo := (-1)) (hi := (-1)) (x := (-1)) rfl) rfl) I⟩

-- X3_hasThing_s
set_option maxRecDepth 100000 in
set_option maxHeartbeats 4000000 in
theorem SX3_hasThing_s {z : zT} (a0 : Int32) (h : ph_H) (I : IC z h) : PX3_hasThing_s a0 h ∧ Qc 0 1 (fun r => ¬ r = 0 → iv 0 11 a0) (FX3_hasThing_s a0 h) := by
  unfold PX3_hasThing_s FX3_hasThing_s
  refine sf_if (fun c1 => ?_) (fun c1 => ?_)
  · have f2 : iv (-2147483648) (-1) a0 := iv_ltl (iv_any a0) (iv_lit (lo := 0) (hi := 0) (x := 0) rfl) c1 rfl
    exact ⟨trivial, (iv_w (c := 0) (d := 1) (iv_lit (lo := 0) (hi := 0) (x := 0) rfl) rfl), fun z => absurd rfl z⟩
  · have f3 : iv 0 2147483647 a0 := iv_ler (iv_any a0) (iv_lit (lo := 0) (hi := 0) (x := 0) rfl) (nlt c1) rfl
    have f4 : iv 0 12 (h 15 10) := ICv I 15 _
    refine sf_if (fun c5 => ?_) (fun c5 => ?_)
    · exact ⟨trivial, (iv_w (c := 0) (d := 1) (iv_lit (lo := 0) (hi := 0) (x := 0) rfl) rfl), fun z => absurd rfl z⟩
    · have f6 : iv 0 11 a0 := iv_ltl f3 f4 (nle c5) rfl
      have f7 : iv 1 12 (h 15 10) := iv_ltr f4 f3 (nle c5) rfl
      exact ⟨trivial, (iv_w (c := 0) (d := 1) (iv_lit (lo := 1) (hi := 1) (x := 1) rfl) rfl), fun _ => f6⟩

-- X3_standing_s
set_option maxRecDepth 100000 in
set_option maxHeartbeats 4000000 in
theorem SX3_standing_s {z : zT} (a0 : Int32) (h : ph_H) (I : IC z h) (f_a0 : iv 0 3 a0) : PX3_standing_s a0 h ∧ iv 0 4 (FX3_standing_s a0 h) := by
  unfold PX3_standing_s FX3_standing_s
  refine sf_n (iv_in f_a0 rfl) ?_
  refine sf_if (fun c1 => ?_) (fun c1 => ?_)
  · have f2 : iv 0 0 (h 19 (a0.toNatClampNeg)) := iv_eql (iv_any (h 19 (a0.toNatClampNeg))) (iv_lit (lo := 0) (hi := 0) (x := 0) rfl) c1 rfl
    exact ⟨trivial, (iv_w (c := 0) (d := 4) (iv_lit (lo := 0) (hi := 0) (x := 0) rfl) rfl)⟩
  · refine sf_n (iv_in f_a0 rfl) ?_
    refine sf_if (fun c3 => ?_) (fun c3 => ?_)
    · have f4 : iv 2 2 (h 19 (a0.toNatClampNeg)) := iv_eql (iv_any (h 19 (a0.toNatClampNeg))) (iv_lit (lo := 2) (hi := 2) (x := 2) rfl) c3 rfl
      exact ⟨trivial, (iv_w (c := 0) (d := 4) (iv_lit (lo := 3) (hi := 3) (x := 3) rfl) rfl)⟩
    · have s5 := SX3_hasEnded_s (z := z) a0 h I f_a0
      refine sf_n s5.1 ?_
      refine sf_if (fun c6 => ?_) (fun c6 => ?_)
      · have f7 : iv 0 23 (h 18 (a0.toNatClampNeg)) := iv_and (iv_any _) (s5.2.2 c6) rfl
        have f8 : iv 0 0 (FX3_hasEnded_s a0 h) := iv_eql s5.2.1 (iv_lit (lo := 0) (hi := 0) (x := 0) rfl) c6 rfl
        have s9 := SX3_canGo_s (z := z) a0 h I f_a0
        refine sf_n s9.1 ?_
        refine sf_if (fun c10 => ?_) (fun c10 => ?_)
        · have f11 : iv 0 0 (FX3_canGo_s a0 h) := iv_eql s9.2.1 (iv_lit (lo := 0) (hi := 0) (x := 0) rfl) c10 rfl
          exact ⟨trivial, (iv_w (c := 0) (d := 4) (iv_lit (lo := 2) (hi := 2) (x := 2) rfl) rfl)⟩
        · have f12 : iv 1 1 (FX3_canGo_s a0 h) := iv_nel s9.2.1 c10 rfl
          exact ⟨trivial, (iv_w (c := 0) (d := 4) (iv_lit (lo := 1) (hi := 1) (x := 1) rfl) rfl)⟩
      · have f13 : iv 1 1 (FX3_hasEnded_s a0 h) := iv_nel s5.2.1 c6 rfl
        exact ⟨trivial, (iv_w (c := 0) (d := 4) (iv_lit (lo := 4) (hi := 4) (x := 4) rfl) rfl)⟩

-- X10_lastWrite
set_option maxRecDepth 100000 in
set_option maxHeartbeats 4000000 in
theorem SX10_lastWrite_10 {z : zT} : ∀ (q : Nat) (x1 : Int32) (x3 : Int32) (h : ph_H), IC z h → iv 0 300 x3 → (x3).toInt - 0 < ((q : Nat) : Int) → PX10_lastWrite_10  q x1 x3 h ∧ iv 0 300 (FX10_lastWrite_10  q x1 x3 h) := by
  intro q
  induction q with
  | zero =>
    intro x1 x3 h I f_x3 mq
    exact mu_zd f_x3 mq rfl
  | succ q ih =>
    intro x1 x3 h I f_x3 mq
    unfold PX10_lastWrite_10 FX10_lastWrite_10
    refine sf_if (fun c1 => ?_) (fun c1 => ?_)
    · have f2 : iv 0 0 x3 := iv_lel f_x3 (iv_lit (lo := 0) (hi := 0) (x := 0) rfl) c1 rfl
      exact ⟨trivial, (iv_w (c := 0) (d := 300) (iv_lit (lo := 0) (hi := 0) (x := 0) rfl) rfl)⟩
    · have f3 : iv 1 300 x3 := iv_ltr f_x3 (iv_lit (lo := 0) (hi := 0) (x := 0) rfl) (nle c1) rfl
      refine sf_n (iv_in f3 rfl) ?_
      refine sf_if (fun c4 => ?_) (fun c4 => ?_)
      · exact ⟨trivial, (iv_w (c := 0) (d := 300) f3 rfl)⟩
      · have f5 : iv 0 299 (x3 + (-1)) := iv_add f3 (iv_lit (lo := (-1)) (hi := (-1)) (x := (-1)) rfl) rfl
        exact ih x1 (x3 + (-1)) h I (iv_w (c := 0) (d := 300) f5 rfl) (mu_dn f3 mq rfl)
set_option maxRecDepth 100000 in
set_option maxHeartbeats 4000000 in
theorem SX10_lastWrite {z : zT} (a0 : Int32) (a1 : Int32) (h : ph_H) (I : IC z h) (f_a1 : iv 0 300 a1) : PX10_lastWrite a0 a1 h ∧ iv 0 300 (FX10_lastWrite a0 a1 h) := by
  unfold PX10_lastWrite FX10_lastWrite
  refine sf_if (fun c1 => ?_) (fun c1 => ?_)
  · have f2 : iv (-2) (-2) a0 := iv_eql (iv_any a0) (iv_lit (lo := (-2)) (hi := (-2)) (x := (-2)) rfl) c1 rfl
    exact ⟨trivial, (iv_w (c := 0) (d := 300) (iv_lit (lo := 0) (hi := 0) (x := 0) rfl) rfl)⟩
  · exact SX10_lastWrite_10 2000 a0 a1 h I f_a1 (mu_0d f_a1 rfl)

-- X11_last
set_option maxRecDepth 100000 in
set_option maxHeartbeats 4000000 in
theorem SX11_last {z : zT} (a0 : Int32) (a1 : Int32) (h : ph_H) (I : IC z h) : PX11_last a0 a1 h ∧ iv (-2) 300 (FX11_last a0 a1 h) := by
  unfold PX11_last FX11_last
  have f1 : iv 0 1 (h 0 8) := ICv I 0 _
  refine sf_if (fun c2 => ?_) (fun c2 => ?_)
  · have f3 : iv 0 0 (h 0 8) := iv_eql f1 (iv_lit (lo := 0) (hi := 0) (x := 0) rfl) c2 rfl
    exact ⟨trivial, (iv_w (c := (-2)) (d := 300) (iv_lit (lo := (-2)) (hi := (-2)) (x := (-2)) rfl) rfl)⟩
  · have f4 : iv 1 1 (h 0 8) := iv_nel f1 c2 rfl
    have s5 := SX11_isMoment (z := z) a1 h I
    refine sf_n s5.1 ?_
    refine sf_if (fun c6 => ?_) (fun c6 => ?_)
    · have f7 : iv 0 0 (FX11_isMoment a1 h) := iv_eql s5.2.1 (iv_lit (lo := 0) (hi := 0) (x := 0) rfl) c6 rfl
      exact ⟨trivial, (iv_w (c := (-2)) (d := 300) (iv_lit (lo := (-1)) (hi := (-1)) (x := (-1)) rfl) rfl)⟩
    · have f8 : iv 0 300 a1 := iv_and (iv_any _) (s5.2.2 c6) rfl
      have f9 : iv 1 1 (FX11_isMoment a1 h) := iv_nel s5.2.1 c6 rfl
      have s10 := SX10_lastWrite (z := z) a0 a1 h I f8
      refine sf_n s10.1 ?_
      exact ⟨trivial, (iv_w (c := (-2)) (d := 300) s10.2 rfl)⟩

-- X10_nextRead
set_option maxRecDepth 100000 in
set_option maxHeartbeats 4000000 in
theorem SX10_nextRead_12 {z : zT} : ∀ (q : Nat) (x1 : Int32) (x3 : Int32) (h : ph_H), IC z h → iv 1 301 x3 → 301 - (x3).toInt < ((q : Nat) : Int) → PX10_nextRead_12  q x1 x3 h ∧ iv 0 300 (FX10_nextRead_12  q x1 x3 h) := by
  intro q
  induction q with
  | zero =>
    intro x1 x3 h I f_x3 mq
    exact mu_zu f_x3 mq rfl
  | succ q ih =>
    intro x1 x3 h I f_x3 mq
    unfold PX10_nextRead_12 FX10_nextRead_12
    have f1 : iv 0 300 (h 35 11) := ICv I 35 _
    refine sf_if (fun c2 => ?_) (fun c2 => ?_)
    · exact ⟨trivial, (iv_w (c := 0) (d := 300) (iv_lit (lo := 0) (hi := 0) (x := 0) rfl) rfl)⟩
    · have f3 : iv 1 300 x3 := iv_lel f_x3 f1 (nlt c2) rfl
      have f4 : iv 1 300 (h 35 11) := iv_ler f1 f_x3 (nlt c2) rfl
      refine sf_n (iv_in f3 rfl) ?_
      refine sf_if (fun c5 => ?_) (fun c5 => ?_)
      · exact ⟨trivial, (iv_w (c := 0) (d := 300) f3 rfl)⟩
      · have f6 : iv 2 301 (x3 + 1) := iv_add f3 (iv_lit (lo := 1) (hi := 1) (x := 1) rfl) rfl
        exact ih x1 (x3 + 1) h I (iv_w (c := 1) (d := 301) f6 rfl) (mu_up f3 mq rfl)
set_option maxRecDepth 100000 in
set_option maxHeartbeats 4000000 in
theorem SX10_nextRead {z : zT} (a0 : Int32) (a1 : Int32) (h : ph_H) (I : IC z h) (f_a1 : iv 0 300 a1) : PX10_nextRead a0 a1 h ∧ iv 0 300 (FX10_nextRead a0 a1 h) := by
  unfold PX10_nextRead FX10_nextRead
  refine sf_if (fun c1 => ?_) (fun c1 => ?_)
  · have f2 : iv (-2) (-2) a0 := iv_eql (iv_any a0) (iv_lit (lo := (-2)) (hi := (-2)) (x := (-2)) rfl) c1 rfl
    exact ⟨trivial, (iv_w (c := 0) (d := 300) (iv_lit (lo := 0) (hi := 0) (x := 0) rfl) rfl)⟩
  · have f3 : iv 1 301 (a1 + 1) := iv_add f_a1 (iv_lit (lo := 1) (hi := 1) (x := 1) rfl) rfl
    exact SX10_nextRead_12 2000 a0 (a1 + 1) h I f3 (mu_0u f3 rfl)

-- X11_next
set_option maxRecDepth 100000 in
set_option maxHeartbeats 4000000 in
theorem SX11_next {z : zT} (a0 : Int32) (a1 : Int32) (h : ph_H) (I : IC z h) : PX11_next a0 a1 h ∧ iv (-2) 300 (FX11_next a0 a1 h) := by
  unfold PX11_next FX11_next
  have f1 : iv 0 1 (h 0 8) := ICv I 0 _
  refine sf_if (fun c2 => ?_) (fun c2 => ?_)
  · have f3 : iv 0 0 (h 0 8) := iv_eql f1 (iv_lit (lo := 0) (hi := 0) (x := 0) rfl) c2 rfl
    exact ⟨trivial, (iv_w (c := (-2)) (d := 300) (iv_lit (lo := (-2)) (hi := (-2)) (x := (-2)) rfl) rfl)⟩
  · have f4 : iv 1 1 (h 0 8) := iv_nel f1 c2 rfl
    have s5 := SX11_isMoment (z := z) a1 h I
    refine sf_n s5.1 ?_
    refine sf_if (fun c6 => ?_) (fun c6 => ?_)
    · have f7 : iv 0 0 (FX11_isMoment a1 h) := iv_eql s5.2.1 (iv_lit (lo := 0) (hi := 0) (x := 0) rfl) c6 rfl
      exact ⟨trivial, (iv_w (c := (-2)) (d := 300) (iv_lit (lo := (-1)) (hi := (-1)) (x := (-1)) rfl) rfl)⟩
    · have f8 : iv 0 300 a1 := iv_and (iv_any _) (s5.2.2 c6) rfl
      have f9 : iv 1 1 (FX11_isMoment a1 h) := iv_nel s5.2.1 c6 rfl
      have s10 := SX10_nextRead (z := z) a0 a1 h I f8
      refine sf_n s10.1 ?_
      exact ⟨trivial, (iv_w (c := (-2)) (d := 300) s10.2 rfl)⟩

-- X10_holdsBehind
set_option maxRecDepth 100000 in
set_option maxHeartbeats 4000000 in
theorem SX10_holdsBehind {z : zT} (a0 : Int32) (a1 : Int32) (a2 : Int32) (a3 : Int32) (h : ph_H) (I : IC z h) (f_a0 : iv 0 300 a0) (f_a3 : iv 0 1 a3) : PX10_holdsBehind a0 a1 a2 a3 h ∧ iv 0 1 (FX10_holdsBehind a0 a1 a2 a3 h) := by
  unfold PX10_holdsBehind FX10_holdsBehind
  refine sf_if (fun c1 => ?_) (fun c1 => ?_)
  · have f2 : iv 0 0 a0 := iv_eql f_a0 (iv_lit (lo := 0) (hi := 0) (x := 0) rfl) c1 rfl
    refine sf_n (iv_bo f_a3) ?_
    exact ⟨trivial, f_a3⟩
  · have f3 : iv 1 300 a0 := iv_nel f_a0 c1 rfl
    refine sf_n (iv_in f3 rfl) ?_
    refine sf_if (fun c4 => ?_) (fun c4 => ?_)
    · refine sf_n (iv_in f3 rfl) ?_
      refine sf_if (fun c5 => ?_) (fun c5 => ?_)
      · have f6 : iv 0 0 (h 41 (a0.toNatClampNeg)) := iv_eql (iv_any (h 41 (a0.toNatClampNeg))) (iv_lit (lo := 0) (hi := 0) (x := 0) rfl) c5 rfl
        refine sf_n (iv_in f3 rfl) ?_
        refine sf_if (fun c7 => ?_) (fun c7 => ?_)
        · exact ⟨trivial, (iv_w (c := 0) (d := 1) (iv_lit (lo := 1) (hi := 1) (x := 1) rfl) rfl)⟩
        · exact ⟨trivial, (iv_w (c := 0) (d := 1) (iv_lit (lo := 0) (hi := 0) (x := 0) rfl) rfl)⟩
      · exact ⟨trivial, (iv_w (c := 0) (d := 1) (iv_lit (lo := 0) (hi := 0) (x := 0) rfl) rfl)⟩
    · refine sf_n (iv_bo f_a3) ?_
      exact ⟨trivial, f_a3⟩

-- X10_spanCount
set_option maxRecDepth 100000 in
set_option maxHeartbeats 4000000 in
theorem SX10_spanCount_21 {z : zT} : ∀ (q : Nat) (x1 : Int32) (x2 : Int32) (x4 : Int32) (x5 : Int32) (x6 : Int32) (x7 : Int32) (h : ph_H), IC z h → iv 0 1 x5 → iv 0 1 x6 → iv 0 301 x7 → 301 - (x7).toInt < ((q : Nat) : Int) → PX10_spanCount_21  q x1 x2 x4 x5 x6 x7 h ∧ iv (-2147483648) 2147483647 (FX10_spanCount_21  q x1 x2 x4 x5 x6 x7 h) := by
  intro q
  induction q with
  | zero =>
    intro x1 x2 x4 x5 x6 x7 h I f_x5 f_x6 f_x7 mq
    exact mu_zu f_x7 mq rfl
  | succ q ih =>
    intro x1 x2 x4 x5 x6 x7 h I f_x5 f_x6 f_x7 mq
    unfold PX10_spanCount_21 FX10_spanCount_21
    have f1 : iv 0 300 (h 35 11) := ICv I 35 _
    refine sf_if (fun c2 => ?_) (fun c2 => ?_)
    · have f3 : iv 1 301 x7 := iv_ltr f_x7 f1 c2 rfl
      exact ⟨trivial, (iv_any x4)⟩
    · have f4 : iv 0 300 x7 := iv_lel f_x7 f1 (nlt c2) rfl
      have s5 := SX10_holdsBehind (z := z) x7 x1 x2 x6 h I f4 f_x6
      refine sf_n s5.1 ?_
      refine sf_if (fun c6 => ?_) (fun c6 => ?_)
      · have f7 : iv 0 0 (FX10_holdsBehind x7 x1 x2 x6 h) := iv_eql s5.2 (iv_lit (lo := 0) (hi := 0) (x := 0) rfl) c6 rfl
        unfold PX10_spanCount_55 FX10_spanCount_55
        have f8 : iv 1 301 (x7 + 1) := iv_add f4 (iv_lit (lo := 1) (hi := 1) (x := 1) rfl) rfl
        exact ih x1 x2 x4 (FX10_holdsBehind x7 x1 x2 x6 h) (FX10_holdsBehind x7 x1 x2 x6 h) (x7 + 1) h I (iv_w (c := 0) (d := 1) f7 rfl) (iv_w (c := 0) (d := 1) f7 rfl) (iv_w (c := 0) (d := 301) f8 rfl) (mu_up f4 mq rfl)
      · have f9 : iv 1 1 (FX10_holdsBehind x7 x1 x2 x6 h) := iv_nel s5.2 c6 rfl
        refine sf_if (fun c10 => ?_) (fun c10 => ?_)
        · have f11 : iv 0 0 x5 := iv_eql f_x5 (iv_lit (lo := 0) (hi := 0) (x := 0) rfl) c10 rfl
          unfold PX10_spanCount_55 FX10_spanCount_55
          have f12 : iv 1 301 (x7 + 1) := iv_add f4 (iv_lit (lo := 1) (hi := 1) (x := 1) rfl) rfl
          exact ih x1 x2 (x4 + 1) (FX10_holdsBehind x7 x1 x2 x6 h) (FX10_holdsBehind x7 x1 x2 x6 h) (x7 + 1) h I (iv_w (c := 0) (d := 1) f9 rfl) (iv_w (c := 0) (d := 1) f9 rfl) (iv_w (c := 0) (d := 301) f12 rfl) (mu_up f4 mq rfl)
        · have f13 : iv 1 1 x5 := iv_nel f_x5 c10 rfl
          unfold PX10_spanCount_55 FX10_spanCount_55
          have f14 : iv 1 301 (x7 + 1) := iv_add f4 (iv_lit (lo := 1) (hi := 1) (x := 1) rfl) rfl
          exact ih x1 x2 x4 (FX10_holdsBehind x7 x1 x2 x6 h) (FX10_holdsBehind x7 x1 x2 x6 h) (x7 + 1) h I (iv_w (c := 0) (d := 1) f9 rfl) (iv_w (c := 0) (d := 1) f9 rfl) (iv_w (c := 0) (d := 301) f14 rfl) (mu_up f4 mq rfl)
set_option maxRecDepth 100000 in
set_option maxHeartbeats 4000000 in
theorem SX10_spanCount {z : zT} (a0 : Int32) (a1 : Int32) (a2 : Int32) (h : ph_H) (I : IC z h) : PX10_spanCount a0 a1 a2 h ∧ iv (-2147483648) 2147483647 (FX10_spanCount a0 a1 a2 h) := by
  unfold PX10_spanCount FX10_spanCount
  refine sf_if (fun c1 => ?_) (fun c1 => ?_)
  · unfold PX10_spanCount_16 FX10_spanCount_16
    exact SX10_spanCount_21 2000 a0 a1 0 0 1 0 h I (iv_w (c := 0) (d := 1) (iv_lit (lo := 0) (hi := 0) (x := 0) rfl) rfl) (iv_w (c := 0) (d := 1) (iv_lit (lo := 1) (hi := 1) (x := 1) rfl) rfl) (iv_w (c := 0) (d := 301) (iv_lit (lo := 0) (hi := 0) (x := 0) rfl) rfl) (mu_0u (iv_lit (lo := 0) (hi := 0) (x := 0) rfl) rfl)
  · unfold PX10_spanCount_16 FX10_spanCount_16
    exact SX10_spanCount_21 2000 a0 a1 0 0 0 0 h I (iv_w (c := 0) (d := 1) (iv_lit (lo := 0) (hi := 0) (x := 0) rfl) rfl) (iv_w (c := 0) (d := 1) (iv_lit (lo := 0) (hi := 0) (x := 0) rfl) rfl) (iv_w (c := 0) (d := 301) (iv_lit (lo := 0) (hi := 0) (x := 0) rfl) rfl) (mu_0u (iv_lit (lo := 0) (hi := 0) (x := 0) rfl) rfl)

-- X10_spanEdge
set_option maxRecDepth 100000 in
set_option maxHeartbeats 4000000 in
theorem SX10_spanEdge_21 {z : zT} : ∀ (q : Nat) (x1 : Int32) (x2 : Int32) (x4 : Int32) (x5 : Int32) (x6 : Int32) (x7 : Int32) (x8 : Int32) (x9 : Int32) (h : ph_H), IC z h → iv 0 1 x5 → iv 0 1 x7 → iv 0 1 x8 → iv 0 301 x9 → 301 - (x9).toInt < ((q : Nat) : Int) → PX10_spanEdge_21  q x1 x2 x4 x5 x6 x7 x8 x9 h ∧ iv (-1) 300 (FX10_spanEdge_21  q x1 x2 x4 x5 x6 x7 x8 x9 h) := by
  intro q
  induction q with
  | zero =>
    intro x1 x2 x4 x5 x6 x7 x8 x9 h I f_x5 f_x7 f_x8 f_x9 mq
    exact mu_zu f_x9 mq rfl
  | succ q ih =>
    intro x1 x2 x4 x5 x6 x7 x8 x9 h I f_x5 f_x7 f_x8 f_x9 mq
    unfold PX10_spanEdge_21 FX10_spanEdge_21
    have f1 : iv 0 300 (h 35 11) := ICv I 35 _
    refine sf_if (fun c2 => ?_) (fun c2 => ?_)
    · have f3 : iv 1 301 x9 := iv_ltr f_x9 f1 c2 rfl
      refine sf_if (fun c4 => ?_) (fun c4 => ?_)
      · have f5 : iv 0 0 x7 := iv_eql f_x7 (iv_lit (lo := 0) (hi := 0) (x := 0) rfl) c4 rfl
        exact ⟨trivial, (iv_w (c := (-1)) (d := 300) (iv_lit (lo := (-1)) (hi := (-1)) (x := (-1)) rfl) rfl)⟩
      · have f6 : iv 1 1 x7 := iv_nel f_x7 c4 rfl
        refine sf_if (fun c7 => ?_) (fun c7 => ?_)
        · have f8 : iv 0 0 x5 := iv_eql f_x5 (iv_lit (lo := 0) (hi := 0) (x := 0) rfl) c7 rfl
          refine sf_if (fun c9 => ?_) (fun c9 => ?_)
          · exact ⟨trivial, (iv_w (c := (-1)) (d := 300) f1 rfl)⟩
          · exact ⟨trivial, (iv_w (c := (-1)) (d := 300) (iv_lit (lo := (-1)) (hi := (-1)) (x := (-1)) rfl) rfl)⟩
        · have f10 : iv 1 1 x5 := iv_nel f_x5 c7 rfl
          exact ⟨trivial, (iv_w (c := (-1)) (d := 300) (iv_lit (lo := (-1)) (hi := (-1)) (x := (-1)) rfl) rfl)⟩
    · have f11 : iv 0 300 x9 := iv_lel f_x9 f1 (nlt c2) rfl
      have s12 := SX10_holdsBehind (z := z) x9 x1 x2 x8 h I f11 f_x8
      refine sf_n s12.1 ?_
      refine sf_if (fun c13 => ?_) (fun c13 => ?_)
      · have f14 : iv 0 0 (FX10_holdsBehind x9 x1 x2 x8 h) := iv_eql s12.2 (iv_lit (lo := 0) (hi := 0) (x := 0) rfl) c13 rfl
        unfold PX10_spanEdge_70 FX10_spanEdge_70
        refine sf_if (fun c15 => ?_) (fun c15 => ?_)
        · have f16 : iv 0 0 x7 := iv_eql f_x7 (iv_lit (lo := 0) (hi := 0) (x := 0) rfl) c15 rfl
          unfold PX10_spanEdge_92 FX10_spanEdge_92
          have f17 : iv 1 301 (x9 + 1) := iv_add f11 (iv_lit (lo := 1) (hi := 1) (x := 1) rfl) rfl
          exact ih x1 x2 x4 x5 x6 (FX10_holdsBehind x9 x1 x2 x8 h) (FX10_holdsBehind x9 x1 x2 x8 h) (x9 + 1) h I f_x5 (iv_w (c := 0) (d := 1) f14 rfl) (iv_w (c := 0) (d := 1) f14 rfl) (iv_w (c := 0) (d := 301) f17 rfl) (mu_up f11 mq rfl)
        · have f18 : iv 1 1 x7 := iv_nel f_x7 c15 rfl
          refine sf_if (fun c19 => ?_) (fun c19 => ?_)
          · refine sf_if (fun c20 => ?_) (fun c20 => ?_)
            · have f21 : iv (-1) 299 (x9 - 1) := iv_sub f11 (iv_lit (lo := 1) (hi := 1) (x := 1) rfl) rfl
              exact ⟨trivial, (iv_w (c := (-1)) (d := 300) f21 rfl)⟩
            · unfold PX10_spanEdge_92 FX10_spanEdge_92
              have f22 : iv 1 301 (x9 + 1) := iv_add f11 (iv_lit (lo := 1) (hi := 1) (x := 1) rfl) rfl
              exact ih x1 x2 x4 x5 x6 (FX10_holdsBehind x9 x1 x2 x8 h) (FX10_holdsBehind x9 x1 x2 x8 h) (x9 + 1) h I f_x5 (iv_w (c := 0) (d := 1) f14 rfl) (iv_w (c := 0) (d := 1) f14 rfl) (iv_w (c := 0) (d := 301) f22 rfl) (mu_up f11 mq rfl)
          · have f23 : iv 0 (-1) (FX10_holdsBehind x9 x1 x2 x8 h) := iv_nel f14 c19 rfl
            exact iv_no f23 rfl
      · have f24 : iv 1 1 (FX10_holdsBehind x9 x1 x2 x8 h) := iv_nel s12.2 c13 rfl
        refine sf_if (fun c25 => ?_) (fun c25 => ?_)
        · have f26 : iv 0 0 x7 := iv_eql f_x7 (iv_lit (lo := 0) (hi := 0) (x := 0) rfl) c25 rfl
          refine sf_if (fun c27 => ?_) (fun c27 => ?_)
          · have f28 : iv 0 0 x5 := iv_eql f_x5 (iv_lit (lo := 0) (hi := 0) (x := 0) rfl) c27 rfl
            unfold PX10_spanEdge_70 FX10_spanEdge_70
            refine sf_if (fun c29 => ?_) (fun c29 => ?_)
            · unfold PX10_spanEdge_92 FX10_spanEdge_92
              have f30 : iv 1 301 (x9 + 1) := iv_add f11 (iv_lit (lo := 1) (hi := 1) (x := 1) rfl) rfl
              exact ih x1 x2 x4 x5 (x6 + 1) (FX10_holdsBehind x9 x1 x2 x8 h) (FX10_holdsBehind x9 x1 x2 x8 h) (x9 + 1) h I (iv_w (c := 0) (d := 1) f28 rfl) (iv_w (c := 0) (d := 1) f24 rfl) (iv_w (c := 0) (d := 1) f24 rfl) (iv_w (c := 0) (d := 301) f30 rfl) (mu_up f11 mq rfl)
            · have f31 : iv 0 (-1) x7 := iv_nel f26 c29 rfl
              exact iv_no f31 rfl
          · have f32 : iv 1 1 x5 := iv_nel f_x5 c27 rfl
            refine sf_if (fun c33 => ?_) (fun c33 => ?_)
            · exact ⟨trivial, (iv_w (c := (-1)) (d := 300) f11 rfl)⟩
            · unfold PX10_spanEdge_70 FX10_spanEdge_70
              refine sf_if (fun c34 => ?_) (fun c34 => ?_)
              · unfold PX10_spanEdge_92 FX10_spanEdge_92
                have f35 : iv 1 301 (x9 + 1) := iv_add f11 (iv_lit (lo := 1) (hi := 1) (x := 1) rfl) rfl
                exact ih x1 x2 x4 x5 (x6 + 1) (FX10_holdsBehind x9 x1 x2 x8 h) (FX10_holdsBehind x9 x1 x2 x8 h) (x9 + 1) h I (iv_w (c := 0) (d := 1) f32 rfl) (iv_w (c := 0) (d := 1) f24 rfl) (iv_w (c := 0) (d := 1) f24 rfl) (iv_w (c := 0) (d := 301) f35 rfl) (mu_up f11 mq rfl)
              · have f36 : iv 0 (-1) x7 := iv_nel f26 c34 rfl
                exact iv_no f36 rfl
        · have f37 : iv 1 1 x7 := iv_nel f_x7 c25 rfl
          unfold PX10_spanEdge_70 FX10_spanEdge_70
          refine sf_if (fun c38 => ?_) (fun c38 => ?_)
          · have f39 : iv 1 0 x7 := iv_eql f37 (iv_lit (lo := 0) (hi := 0) (x := 0) rfl) c38 rfl
            exact iv_no f39 rfl
          · refine sf_if (fun c40 => ?_) (fun c40 => ?_)
            · have f41 : iv 1 0 (FX10_holdsBehind x9 x1 x2 x8 h) := iv_eql f24 (iv_lit (lo := 0) (hi := 0) (x := 0) rfl) c40 rfl
              exact iv_no f41 rfl
            · unfold PX10_spanEdge_92 FX10_spanEdge_92
              have f42 : iv 1 301 (x9 + 1) := iv_add f11 (iv_lit (lo := 1) (hi := 1) (x := 1) rfl) rfl
              exact ih x1 x2 x4 x5 x6 (FX10_holdsBehind x9 x1 x2 x8 h) (FX10_holdsBehind x9 x1 x2 x8 h) (x9 + 1) h I f_x5 (iv_w (c := 0) (d := 1) f24 rfl) (iv_w (c := 0) (d := 1) f24 rfl) (iv_w (c := 0) (d := 301) f42 rfl) (mu_up f11 mq rfl)
set_option maxRecDepth 100000 in
set_option maxHeartbeats 4000000 in
theorem SX10_spanEdge {z : zT} (a0 : Int32) (a1 : Int32) (a2 : Int32) (a3 : Int32) (a4 : Int32) (h : ph_H) (I : IC z h) (f_a4 : iv 0 1 a4) : PX10_spanEdge a0 a1 a2 a3 a4 h ∧ iv (-1) 300 (FX10_spanEdge a0 a1 a2 a3 a4 h) := by
  unfold PX10_spanEdge FX10_spanEdge
  refine sf_if (fun c1 => ?_) (fun c1 => ?_)
  · unfold PX10_spanEdge_16 FX10_spanEdge_16
    exact SX10_spanEdge_21 2000 a0 a1 a3 a4 (-1) 0 1 0 h I f_a4 (iv_w (c := 0) (d := 1) (iv_lit (lo := 0) (hi := 0) (x := 0) rfl) rfl) (iv_w (c := 0) (d := 1) (iv_lit (lo := 1) (hi := 1) (x := 1) rfl) rfl) (iv_w (c := 0) (d := 301) (iv_lit (lo := 0) (hi := 0) (x := 0) rfl) rfl) (mu_0u (iv_lit (lo := 0) (hi := 0) (x := 0) rfl) rfl)
  · unfold PX10_spanEdge_16 FX10_spanEdge_16
    exact SX10_spanEdge_21 2000 a0 a1 a3 a4 (-1) 0 0 0 h I f_a4 (iv_w (c := 0) (d := 1) (iv_lit (lo := 0) (hi := 0) (x := 0) rfl) rfl) (iv_w (c := 0) (d := 1) (iv_lit (lo := 0) (hi := 0) (x := 0) rfl) rfl) (iv_w (c := 0) (d := 301) (iv_lit (lo := 0) (hi := 0) (x := 0) rfl) rfl) (mu_0u (iv_lit (lo := 0) (hi := 0) (x := 0) rfl) rfl)

-- X11_when
set_option maxRecDepth 100000 in
set_option maxHeartbeats 4000000 in
theorem SX11_when {z : zT} (a0 : Int32) (a1 : Int32) (a2 : Int32) (a3 : Int32) (h : ph_H) (I : IC z h) : PX11_when a0 a1 a2 a3 h ∧ iv (-2147483648) 2147483647 (FX11_when a0 a1 a2 a3 h) := by
  unfold PX11_when FX11_when
  have f1 : iv 0 1 (h 0 8) := ICv I 0 _
  refine sf_if (fun c2 => ?_) (fun c2 => ?_)
  · have f3 : iv 0 0 (h 0 8) := iv_eql f1 (iv_lit (lo := 0) (hi := 0) (x := 0) rfl) c2 rfl
    exact ⟨trivial, (iv_any (-2))⟩
  · have f4 : iv 1 1 (h 0 8) := iv_nel f1 c2 rfl
    have s5 := SX11_isCell a0 
    refine sf_n s5.1 ?_
    refine sf_if (fun c6 => ?_) (fun c6 => ?_)
    · have f7 : iv 0 0 (FX11_isCell a0) := iv_eql s5.2.1 (iv_lit (lo := 0) (hi := 0) (x := 0) rfl) c6 rfl
      exact ⟨trivial, (iv_any (-1))⟩
    · have f8 : iv 0 11 a0 := iv_and (iv_any _) (s5.2.2 c6) rfl
      have f9 : iv 1 1 (FX11_isCell a0) := iv_nel s5.2.1 c6 rfl
      refine sf_if (fun c10 => ?_) (fun c10 => ?_)
      · have f11 : iv (-2147483648) (-1) a3 := iv_ltl (iv_any a3) (iv_lit (lo := 0) (hi := 0) (x := 0) rfl) c10 rfl
        exact ⟨trivial, (iv_any (-1))⟩
      · have f12 : iv 0 2147483647 a3 := iv_ler (iv_any a3) (iv_lit (lo := 0) (hi := 0) (x := 0) rfl) (nlt c10) rfl
        refine sf_if (fun c13 => ?_) (fun c13 => ?_)
        · have f14 : iv 0 2 a3 := iv_lel f12 (iv_lit (lo := 2) (hi := 2) (x := 2) rfl) c13 rfl
          refine sf_if (fun c15 => ?_) (fun c15 => ?_)
          · have f16 : iv 0 0 a3 := iv_eql f14 (iv_lit (lo := 0) (hi := 0) (x := 0) rfl) c15 rfl
            refine sf_n (iv_in f8 rfl) ?_
            have s17 := SX10_spanCount (z := z) a0 a1 (h 11 (a0.toNatClampNeg)) h I
            refine sf_n s17.1 ?_
            exact ⟨trivial, s17.2⟩
          · have f18 : iv 1 2 a3 := iv_nel f14 c15 rfl
            refine sf_n (iv_in f8 rfl) ?_
            refine sf_if (fun c19 => ?_) (fun c19 => ?_)
            · have f20 : iv 1 1 a3 := iv_eql f18 (iv_lit (lo := 1) (hi := 1) (x := 1) rfl) c19 rfl
              unfold PX11_when_81 FX11_when_81
              have s21 := SX10_spanEdge (z := z) a0 a1 (h 11 (a0.toNatClampNeg)) a2 1 h I (iv_w (c := 0) (d := 1) (iv_lit (lo := 1) (hi := 1) (x := 1) rfl) rfl)
              refine sf_n s21.1 ?_
              exact ⟨trivial, (iv_any (FX10_spanEdge a0 a1 (h 11 (a0.toNatClampNeg)) a2 1 h))⟩
            · have f22 : iv 2 2 a3 := iv_nel f18 c19 rfl
              unfold PX11_when_81 FX11_when_81
              have s23 := SX10_spanEdge (z := z) a0 a1 (h 11 (a0.toNatClampNeg)) a2 0 h I (iv_w (c := 0) (d := 1) (iv_lit (lo := 0) (hi := 0) (x := 0) rfl) rfl)
              refine sf_n s23.1 ?_
              exact ⟨trivial, (iv_any (FX10_spanEdge a0 a1 (h 11 (a0.toNatClampNeg)) a2 0 h))⟩
        · have f24 : iv 3 2147483647 a3 := iv_ltr f12 (iv_lit (lo := 2) (hi := 2) (x := 2) rfl) (nle c13) rfl
          exact ⟨trivial, (iv_any (-1))⟩

-- X4_isAhead
set_option maxRecDepth 100000 in
set_option maxHeartbeats 4000000 in
theorem SX4_isAhead {z : zT} (a0 : Int32) (a1 : Int32) (h : ph_H) (I : IC z h) (f_a0 : iv 0 300 a0) (f_a1 : iv 0 300 a1) : PX4_isAhead a0 a1 h ∧ iv 0 1 (FX4_isAhead a0 a1 h) := by
  unfold PX4_isAhead FX4_isAhead
  refine sf_if (fun c1 => ?_) (fun c1 => ?_)
  · exact ⟨trivial, (iv_w (c := 0) (d := 1) (iv_lit (lo := 0) (hi := 0) (x := 0) rfl) rfl)⟩
  · have f2 : iv 0 299 a0 := iv_ltl f_a0 f_a1 (nle c1) rfl
    have f3 : iv 1 300 a1 := iv_ltr f_a1 f_a0 (nle c1) rfl
    have f4 : iv 4 1200 (a1 * 4) := iv_mulr (c := 4) rfl f3 rfl
    refine sf_n (iv_in f2 rfl) ?_
    have f5 : iv 0 3 (h 36 (a0.toNatClampNeg)) := ICv I 36 _
    have f6 : iv 4 1203 ((a1 * 4) + (h 36 (a0.toNatClampNeg))) := iv_add f4 f5 rfl
    refine sf_n (iv_in f6 rfl) ?_
    refine sf_if (fun c7 => ?_) (fun c7 => ?_)
    · have f8 : iv (-2147483648) 298 (h 48 (((a1 * 4) + (h 36 (a0.toNatClampNeg))).toNatClampNeg)) := iv_ltl (iv_any (h 48 (((a1 * 4) + (h 36 (a0.toNatClampNeg))).toNatClampNeg))) f2 c7 rfl
      exact ⟨trivial, (iv_w (c := 0) (d := 1) (iv_lit (lo := 0) (hi := 0) (x := 0) rfl) rfl)⟩
    · have f9 : iv 0 2147483647 (h 48 (((a1 * 4) + (h 36 (a0.toNatClampNeg))).toNatClampNeg)) := iv_ler (iv_any (h 48 (((a1 * 4) + (h 36 (a0.toNatClampNeg))).toNatClampNeg))) f2 (nlt c7) rfl
      exact ⟨trivial, (iv_w (c := 0) (d := 1) (iv_lit (lo := 1) (hi := 1) (x := 1) rfl) rfl)⟩

-- J7_fill_53178_k49
set_option maxRecDepth 100000 in
set_option maxHeartbeats 4000000 in
theorem SJ7_fill_53178_k49_5 {z : zT} : ∀ (q : Nat) (x1 : Int32) (x2 : Int32) (x3 : Int32) (h : ph_H), IC z h → iv 0 16 x2 → iv 16 16 x3 → 16 - (x2).toInt < ((q : Nat) : Int) → PJ7_fill_53178_k49_5  q x1 x2 x3 h ∧ IC z (FJ7_fill_53178_k49_5  q x1 x2 x3 h) := by
  intro q
  induction q with
  | zero =>
    intro x1 x2 x3 h I f_x2 f_x3 mq
    exact mu_zu f_x2 mq rfl
  | succ q ih =>
    intro x1 x2 x3 h I f_x2 f_x3 mq
    unfold PJ7_fill_53178_k49_5 FJ7_fill_53178_k49_5
    refine sf_if (fun c1 => ?_) (fun c1 => ?_)
    · have f2 : iv 16 16 x2 := iv_ler f_x2 f_x3 c1 rfl
      exact ⟨trivial, I⟩
    · have f3 : iv 0 15 x2 := iv_ltl f_x2 f_x3 (nle c1) rfl
      refine sf_n (iv_in f3 rfl) ?_
      have I4 : IC z (hs h 49 x2.toNatClampNeg x1) := ICs I (k := 49) (i := x2.toNatClampNeg) (v := x1) (iv_any x1) rfl
      have f5 : iv 1 16 (x2 + 1) := iv_add f3 (iv_lit (lo := 1) (hi := 1) (x := 1) rfl) rfl
      exact ih x1 (x2 + 1) x3 (hs h 49 x2.toNatClampNeg x1) I4 (iv_w (c := 0) (d := 16) f5 rfl) f_x3 (mu_up f3 mq rfl)
set_option maxRecDepth 100000 in
set_option maxHeartbeats 4000000 in
theorem SJ7_fill_53178_k49 {z : zT} (a1 : Int32) (h : ph_H) (I : IC z h) : PJ7_fill_53178_k49 a1 h ∧ IC z (FJ7_fill_53178_k49 a1 h) := by
  unfold PJ7_fill_53178_k49 FJ7_fill_53178_k49
  exact SJ7_fill_53178_k49_5 2000 a1 0 16 h I (iv_w (c := 0) (d := 16) (iv_lit (lo := 0) (hi := 0) (x := 0) rfl) rfl) (iv_lit (lo := 16) (hi := 16) (x := 16) rfl) (mu_0u (iv_lit (lo := 0) (hi := 0) (x := 0) rfl) rfl)

-- J7_fill_53178_k50
set_option maxRecDepth 100000 in
set_option maxHeartbeats 4000000 in
theorem SJ7_fill_53178_k50_5 {z : zT} : ∀ (q : Nat) (x1 : Int32) (x2 : Int32) (x3 : Int32) (h : ph_H), IC z h → iv 0 48 x2 → iv 48 48 x3 → 48 - (x2).toInt < ((q : Nat) : Int) → PJ7_fill_53178_k50_5  q x1 x2 x3 h ∧ IC z (FJ7_fill_53178_k50_5  q x1 x2 x3 h) := by
  intro q
  induction q with
  | zero =>
    intro x1 x2 x3 h I f_x2 f_x3 mq
    exact mu_zu f_x2 mq rfl
  | succ q ih =>
    intro x1 x2 x3 h I f_x2 f_x3 mq
    unfold PJ7_fill_53178_k50_5 FJ7_fill_53178_k50_5
    refine sf_if (fun c1 => ?_) (fun c1 => ?_)
    · have f2 : iv 48 48 x2 := iv_ler f_x2 f_x3 c1 rfl
      exact ⟨trivial, I⟩
    · have f3 : iv 0 47 x2 := iv_ltl f_x2 f_x3 (nle c1) rfl
      refine sf_n (iv_in f3 rfl) ?_
      have I4 : IC z (hs h 50 x2.toNatClampNeg x1) := ICs I (k := 50) (i := x2.toNatClampNeg) (v := x1) (iv_any x1) rfl
      have f5 : iv 1 48 (x2 + 1) := iv_add f3 (iv_lit (lo := 1) (hi := 1) (x := 1) rfl) rfl
      exact ih x1 (x2 + 1) x3 (hs h 50 x2.toNatClampNeg x1) I4 (iv_w (c := 0) (d := 48) f5 rfl) f_x3 (mu_up f3 mq rfl)
set_option maxRecDepth 100000 in
set_option maxHeartbeats 4000000 in
theorem SJ7_fill_53178_k50 {z : zT} (a1 : Int32) (h : ph_H) (I : IC z h) : PJ7_fill_53178_k50 a1 h ∧ IC z (FJ7_fill_53178_k50 a1 h) := by
  unfold PJ7_fill_53178_k50 FJ7_fill_53178_k50
  exact SJ7_fill_53178_k50_5 2000 a1 0 48 h I (iv_w (c := 0) (d := 48) (iv_lit (lo := 0) (hi := 0) (x := 0) rfl) rfl) (iv_lit (lo := 48) (hi := 48) (x := 48) rfl) (mu_0u (iv_lit (lo := 0) (hi := 0) (x := 0) rfl) rfl)

-- X10_placeOf
set_option maxRecDepth 100000 in
set_option maxHeartbeats 4000000 in
theorem SX10_placeOf {z : zT} (a0 : Int32) (h : ph_H) (I : IC z h) (f_a0 : iv 0 300 a0) : PX10_placeOf a0 h ∧ iv (-2147483648) 2147483647 (FX10_placeOf a0 h) := by
  unfold PX10_placeOf FX10_placeOf
  refine sf_n (iv_in f_a0 rfl) ?_
  refine sf_if (fun c1 => ?_) (fun c1 => ?_)
  · have f2 : iv (-2) (-2) (h 39 (a0.toNatClampNeg)) := iv_eql (iv_any (h 39 (a0.toNatClampNeg))) (iv_lit (lo := (-2)) (hi := (-2)) (x := (-2)) rfl) c1 rfl
    refine sf_n (iv_in f_a0 rfl) ?_
    exact ⟨trivial, (iv_any (h 40 (a0.toNatClampNeg)))⟩
  · refine sf_n (iv_in f_a0 rfl) ?_
    exact ⟨trivial, (iv_any (h 39 (a0.toNatClampNeg)))⟩

-- X4_isRace
set_option maxRecDepth 100000 in
set_option maxHeartbeats 4000000 in
theorem SX4_isRace {z : zT} (a0 : Int32) (a1 : Int32) (h : ph_H) (I : IC z h) (f_a0 : iv 0 300 a0) (f_a1 : iv 0 300 a1) : PX4_isRace a0 a1 h ∧ iv 0 1 (FX4_isRace a0 a1 h) := by
  unfold PX4_isRace FX4_isRace
  have s1 := SX10_placeOf (z := z) a1 h I f_a1
  refine sf_n s1.1 ?_
  refine sf_if (fun c2 => ?_) (fun c2 => ?_)
  · have f3 : iv (-2) (-2) (FX10_placeOf a1 h) := iv_eql s1.2 (iv_lit (lo := (-2)) (hi := (-2)) (x := (-2)) rfl) c2 rfl
    exact ⟨trivial, (iv_w (c := 0) (d := 1) (iv_lit (lo := 0) (hi := 0) (x := 0) rfl) rfl)⟩
  · have s4 := SX10_placeOf (z := z) a0 h I f_a0
    refine sf_n s4.1 ?_
    refine sf_if (fun c5 => ?_) (fun c5 => ?_)
    · refine sf_n (iv_in f_a0 rfl) ?_
      have f6 : iv 0 3 (h 36 (a0.toNatClampNeg)) := ICv I 36 _
      refine sf_n (iv_in f_a1 rfl) ?_
      have f7 : iv 0 3 (h 36 (a1.toNatClampNeg)) := ICv I 36 _
      refine sf_if (fun c8 => ?_) (fun c8 => ?_)
      · exact ⟨trivial, (iv_w (c := 0) (d := 1) (iv_lit (lo := 0) (hi := 0) (x := 0) rfl) rfl)⟩
      · refine sf_n (iv_in f_a0 rfl) ?_
        refine sf_if (fun c9 => ?_) (fun c9 => ?_)
        · unfold PX4_isRace_76 FX4_isRace_76
          have s10 := SX4_isAhead (z := z) a0 a1 h I f_a0 f_a1
          refine sf_n s10.1 ?_
          refine sf_if (fun c11 => ?_) (fun c11 => ?_)
          · have f12 : iv 0 0 (FX4_isAhead a0 a1 h) := iv_eql s10.2 (iv_lit (lo := 0) (hi := 0) (x := 0) rfl) c11 rfl
            exact ⟨trivial, (iv_w (c := 0) (d := 1) (iv_lit (lo := 1) (hi := 1) (x := 1) rfl) rfl)⟩
          · have f13 : iv 1 1 (FX4_isAhead a0 a1 h) := iv_nel s10.2 c11 rfl
            exact ⟨trivial, (iv_w (c := 0) (d := 1) (iv_lit (lo := 0) (hi := 0) (x := 0) rfl) rfl)⟩
        · refine sf_n (iv_in f_a1 rfl) ?_
          refine sf_if (fun c14 => ?_) (fun c14 => ?_)
          · unfold PX4_isRace_76 FX4_isRace_76
            have s15 := SX4_isAhead (z := z) a0 a1 h I f_a0 f_a1
            refine sf_n s15.1 ?_
            refine sf_if (fun c16 => ?_) (fun c16 => ?_)
            · have f17 : iv 0 0 (FX4_isAhead a0 a1 h) := iv_eql s15.2 (iv_lit (lo := 0) (hi := 0) (x := 0) rfl) c16 rfl
              exact ⟨trivial, (iv_w (c := 0) (d := 1) (iv_lit (lo := 1) (hi := 1) (x := 1) rfl) rfl)⟩
            · have f18 : iv 1 1 (FX4_isAhead a0 a1 h) := iv_nel s15.2 c16 rfl
              exact ⟨trivial, (iv_w (c := 0) (d := 1) (iv_lit (lo := 0) (hi := 0) (x := 0) rfl) rfl)⟩
          · exact ⟨trivial, (iv_w (c := 0) (d := 1) (iv_lit (lo := 0) (hi := 0) (x := 0) rfl) rfl)⟩
    · exact ⟨trivial, (iv_w (c := 0) (d := 1) (iv_lit (lo := 0) (hi := 0) (x := 0) rfl) rfl)⟩

-- X4_countRaces
set_option maxRecDepth 100000 in
set_option maxHeartbeats 4000000 in
theorem SX4_countRaces_19 {z : zT} : ∀ (q : Nat) (x1 : Int32) (x2 : Int32) (x3 : Int32) (h : ph_H), IC z h → iv 0 300 x1 → iv 1 300 x3 → 300 - (x3).toInt < ((q : Nat) : Int) → PX4_countRaces_19  q x1 x2 x3 h ∧ iv (-2147483648) 2147483647 (FX4_countRaces_19  q x1 x2 x3 h) := by
  intro q
  induction q with
  | zero =>
    intro x1 x2 x3 h I f_x1 f_x3 mq
    exact mu_zu f_x3 mq rfl
  | succ q ih =>
    intro x1 x2 x3 h I f_x1 f_x3 mq
    unfold PX4_countRaces_19 FX4_countRaces_19
    refine sf_if (fun c1 => ?_) (fun c1 => ?_)
    · exact ⟨trivial, (iv_any x2)⟩
    · have f2 : iv 1 299 x3 := iv_ltl f_x3 f_x1 (nle c1) rfl
      have f3 : iv 2 300 x1 := iv_ltr f_x1 f_x3 (nle c1) rfl
      have s4 := SX4_isRace (z := z) x3 x1 h I (iv_w (c := 0) (d := 300) f2 rfl) (iv_w (c := 0) (d := 300) f3 rfl)
      refine sf_n s4.1 ?_
      refine sf_if (fun c5 => ?_) (fun c5 => ?_)
      · have f6 : iv 0 0 (FX4_isRace x3 x1 h) := iv_eql s4.2 (iv_lit (lo := 0) (hi := 0) (x := 0) rfl) c5 rfl
        unfold PX4_countRaces_36 FX4_countRaces_36
        have f7 : iv 2 300 (x3 + 1) := iv_add f2 (iv_lit (lo := 1) (hi := 1) (x := 1) rfl) rfl
        exact ih x1 x2 (x3 + 1) h I (iv_w (c := 0) (d := 300) f3 rfl) (iv_w (c := 1) (d := 300) f7 rfl) (mu_up f2 mq rfl)
      · have f8 : iv 1 1 (FX4_isRace x3 x1 h) := iv_nel s4.2 c5 rfl
        unfold PX4_countRaces_36 FX4_countRaces_36
        have f9 : iv 2 300 (x3 + 1) := iv_add f2 (iv_lit (lo := 1) (hi := 1) (x := 1) rfl) rfl
        exact ih x1 (x2 + 1) (x3 + 1) h I (iv_w (c := 0) (d := 300) f3 rfl) (iv_w (c := 1) (d := 300) f9 rfl) (mu_up f2 mq rfl)
set_option maxRecDepth 100000 in
set_option maxHeartbeats 4000000 in
theorem SX4_countRaces {z : zT} (a0 : Int32) (h : ph_H) (I : IC z h) (f_a0 : iv 0 300 a0) : PX4_countRaces a0 h ∧ iv (-2147483648) 2147483647 (FX4_countRaces a0 h) := by
  unfold PX4_countRaces FX4_countRaces
  have s1 := SX10_placeOf (z := z) a0 h I f_a0
  refine sf_n s1.1 ?_
  refine sf_if (fun c2 => ?_) (fun c2 => ?_)
  · have f3 : iv (-2) (-2) (FX10_placeOf a0 h) := iv_eql s1.2 (iv_lit (lo := (-2)) (hi := (-2)) (x := (-2)) rfl) c2 rfl
    exact ⟨trivial, (iv_any 0)⟩
  · exact SX4_countRaces_19 2000 a0 0 1 h I f_a0 (iv_w (c := 1) (d := 300) (iv_lit (lo := 1) (hi := 1) (x := 1) rfl) rfl) (mu_0u (iv_lit (lo := 1) (hi := 1) (x := 1) rfl) rfl)

-- X4_join_k49k49
set_option maxRecDepth 100000 in
set_option maxHeartbeats 4000000 in
theorem SX4_join_k49k49_3 {z : zT} : ∀ (q : Nat) (x1 : Int32) (x3 : Int32) (x4 : Int32) (h : ph_H), IC z h → iv 0 12 x1 → iv 0 12 x3 → iv 0 4 x4 → 4 - (x4).toInt < ((q : Nat) : Int) → PX4_join_k49k49_3  q x1 x3 x4 h ∧ IC z (FX4_join_k49k49_3  q x1 x3 x4 h) := by
  intro q
  induction q with
  | zero =>
    intro x1 x3 x4 h I f_x1 f_x3 f_x4 mq
    exact mu_zu f_x4 mq rfl
  | succ q ih =>
    intro x1 x3 x4 h I f_x1 f_x3 f_x4 mq
    unfold PX4_join_k49k49_3 FX4_join_k49k49_3
    refine sf_if (fun c1 => ?_) (fun c1 => ?_)
    · have f2 : iv 4 4 x4 := iv_ler f_x4 (iv_lit (lo := 4) (hi := 4) (x := 4) rfl) c1 rfl
      exact ⟨trivial, I⟩
    · have f3 : iv 0 3 x4 := iv_ltl f_x4 (iv_lit (lo := 4) (hi := 4) (x := 4) rfl) (nle c1) rfl
      have f4 : iv 0 15 (x3 + x4) := iv_add f_x3 f3 rfl
      refine sf_n (iv_in f4 rfl) ?_
      have f5 : iv 0 15 (x1 + x4) := iv_add f_x1 f3 rfl
      refine sf_n (iv_in f5 rfl) ?_
      refine sf_n (iv_in f4 rfl) ?_
      have I6 : IC z (hs h 49 (x3 + x4).toNatClampNeg (if (h 49 ((x3 + x4).toNatClampNeg)) < (h 49 ((x1 + x4).toNatClampNeg)) then (h 49 ((x1 + x4).toNatClampNeg)) else (h 49 ((x3 + x4).toNatClampNeg)))) := ICs I (k := 49) (i := (x3 + x4).toNatClampNeg) (v := (if (h 49 ((x3 + x4).toNatClampNeg)) < (h 49 ((x1 + x4).toNatClampNeg)) then (h 49 ((x1 + x4).toNatClampNeg)) else (h 49 ((x3 + x4).toNatClampNeg)))) (iv_any (if (h 49 ((x3 + x4).toNatClampNeg)) < (h 49 ((x1 + x4).toNatClampNeg)) then (h 49 ((x1 + x4).toNatClampNeg)) else (h 49 ((x3 + x4).toNatClampNeg)))) rfl
      have f7 : iv 1 4 (x4 + 1) := iv_add f3 (iv_lit (lo := 1) (hi := 1) (x := 1) rfl) rfl
      exact ih x1 x3 (x4 + 1) (hs h 49 (x3 + x4).toNatClampNeg (if (h 49 ((x3 + x4).toNatClampNeg)) < (h 49 ((x1 + x4).toNatClampNeg)) then (h 49 ((x1 + x4).toNatClampNeg)) else (h 49 ((x3 + x4).toNatClampNeg)))) I6 f_x1 f_x3 (iv_w (c := 0) (d := 4) f7 rfl) (mu_up f3 mq rfl)
set_option maxRecDepth 100000 in
set_option maxHeartbeats 4000000 in
theorem SX4_join_k49k49 {z : zT} (a1 : Int32) (a3 : Int32) (h : ph_H) (I : IC z h) (f_a1 : iv 0 12 a1) (f_a3 : iv 0 12 a3) : PX4_join_k49k49 a1 a3 h ∧ IC z (FX4_join_k49k49 a1 a3 h) := by
  unfold PX4_join_k49k49 FX4_join_k49k49
  exact SX4_join_k49k49_3 2000 a1 a3 0 h I f_a1 f_a3 (iv_w (c := 0) (d := 4) (iv_lit (lo := 0) (hi := 0) (x := 0) rfl) rfl) (mu_0u (iv_lit (lo := 0) (hi := 0) (x := 0) rfl) rfl)

-- X4_join_k49k50
set_option maxRecDepth 100000 in
set_option maxHeartbeats 4000000 in
theorem SX4_join_k49k50_3 {z : zT} : ∀ (q : Nat) (x1 : Int32) (x3 : Int32) (x4 : Int32) (h : ph_H), IC z h → iv 0 12 x1 → iv 0 44 x3 → iv 0 4 x4 → 4 - (x4).toInt < ((q : Nat) : Int) → PX4_join_k49k50_3  q x1 x3 x4 h ∧ IC z (FX4_join_k49k50_3  q x1 x3 x4 h) := by
  intro q
  induction q with
  | zero =>
    intro x1 x3 x4 h I f_x1 f_x3 f_x4 mq
    exact mu_zu f_x4 mq rfl
  | succ q ih =>
    intro x1 x3 x4 h I f_x1 f_x3 f_x4 mq
    unfold PX4_join_k49k50_3 FX4_join_k49k50_3
    refine sf_if (fun c1 => ?_) (fun c1 => ?_)
    · have f2 : iv 4 4 x4 := iv_ler f_x4 (iv_lit (lo := 4) (hi := 4) (x := 4) rfl) c1 rfl
      exact ⟨trivial, I⟩
    · have f3 : iv 0 3 x4 := iv_ltl f_x4 (iv_lit (lo := 4) (hi := 4) (x := 4) rfl) (nle c1) rfl
      have f4 : iv 0 47 (x3 + x4) := iv_add f_x3 f3 rfl
      refine sf_n (iv_in f4 rfl) ?_
      have f5 : iv 0 15 (x1 + x4) := iv_add f_x1 f3 rfl
      refine sf_n (iv_in f5 rfl) ?_
      refine sf_n (iv_in f4 rfl) ?_
      have I6 : IC z (hs h 50 (x3 + x4).toNatClampNeg (if (h 50 ((x3 + x4).toNatClampNeg)) < (h 49 ((x1 + x4).toNatClampNeg)) then (h 49 ((x1 + x4).toNatClampNeg)) else (h 50 ((x3 + x4).toNatClampNeg)))) := ICs I (k := 50) (i := (x3 + x4).toNatClampNeg) (v := (if (h 50 ((x3 + x4).toNatClampNeg)) < (h 49 ((x1 + x4).toNatClampNeg)) then (h 49 ((x1 + x4).toNatClampNeg)) else (h 50 ((x3 + x4).toNatClampNeg)))) (iv_any (if (h 50 ((x3 + x4).toNatClampNeg)) < (h 49 ((x1 + x4).toNatClampNeg)) then (h 49 ((x1 + x4).toNatClampNeg)) else (h 50 ((x3 + x4).toNatClampNeg)))) rfl
      have f7 : iv 1 4 (x4 + 1) := iv_add f3 (iv_lit (lo := 1) (hi := 1) (x := 1) rfl) rfl
      exact ih x1 x3 (x4 + 1) (hs h 50 (x3 + x4).toNatClampNeg (if (h 50 ((x3 + x4).toNatClampNeg)) < (h 49 ((x1 + x4).toNatClampNeg)) then (h 49 ((x1 + x4).toNatClampNeg)) else (h 50 ((x3 + x4).toNatClampNeg)))) I6 f_x1 f_x3 (iv_w (c := 0) (d := 4) f7 rfl) (mu_up f3 mq rfl)
set_option maxRecDepth 100000 in
set_option maxHeartbeats 4000000 in
theorem SX4_join_k49k50 {z : zT} (a1 : Int32) (a3 : Int32) (h : ph_H) (I : IC z h) (f_a1 : iv 0 12 a1) (f_a3 : iv 0 44 a3) : PX4_join_k49k50 a1 a3 h ∧ IC z (FX4_join_k49k50 a1 a3 h) := by
  unfold PX4_join_k49k50 FX4_join_k49k50
  exact SX4_join_k49k50_3 2000 a1 a3 0 h I f_a1 f_a3 (iv_w (c := 0) (d := 4) (iv_lit (lo := 0) (hi := 0) (x := 0) rfl) rfl) (mu_0u (iv_lit (lo := 0) (hi := 0) (x := 0) rfl) rfl)

-- X4_join_k50k49
set_option maxRecDepth 100000 in
set_option maxHeartbeats 4000000 in
theorem SX4_join_k50k49_3 {z : zT} : ∀ (q : Nat) (x1 : Int32) (x3 : Int32) (x4 : Int32) (h : ph_H), IC z h → iv 0 44 x1 → iv 0 12 x3 → iv 0 4 x4 → 4 - (x4).toInt < ((q : Nat) : Int) → PX4_join_k50k49_3  q x1 x3 x4 h ∧ IC z (FX4_join_k50k49_3  q x1 x3 x4 h) := by
  intro q
  induction q with
  | zero =>
    intro x1 x3 x4 h I f_x1 f_x3 f_x4 mq
    exact mu_zu f_x4 mq rfl
  | succ q ih =>
    intro x1 x3 x4 h I f_x1 f_x3 f_x4 mq
    unfold PX4_join_k50k49_3 FX4_join_k50k49_3
    refine sf_if (fun c1 => ?_) (fun c1 => ?_)
    · have f2 : iv 4 4 x4 := iv_ler f_x4 (iv_lit (lo := 4) (hi := 4) (x := 4) rfl) c1 rfl
      exact ⟨trivial, I⟩
    · have f3 : iv 0 3 x4 := iv_ltl f_x4 (iv_lit (lo := 4) (hi := 4) (x := 4) rfl) (nle c1) rfl
      have f4 : iv 0 15 (x3 + x4) := iv_add f_x3 f3 rfl
      refine sf_n (iv_in f4 rfl) ?_
      have f5 : iv 0 47 (x1 + x4) := iv_add f_x1 f3 rfl
      refine sf_n (iv_in f5 rfl) ?_
      refine sf_n (iv_in f4 rfl) ?_
      have I6 : IC z (hs h 49 (x3 + x4).toNatClampNeg (if (h 49 ((x3 + x4).toNatClampNeg)) < (h 50 ((x1 + x4).toNatClampNeg)) then (h 50 ((x1 + x4).toNatClampNeg)) else (h 49 ((x3 + x4).toNatClampNeg)))) := ICs I (k := 49) (i := (x3 + x4).toNatClampNeg) (v := (if (h 49 ((x3 + x4).toNatClampNeg)) < (h 50 ((x1 + x4).toNatClampNeg)) then (h 50 ((x1 + x4).toNatClampNeg)) else (h 49 ((x3 + x4).toNatClampNeg)))) (iv_any (if (h 49 ((x3 + x4).toNatClampNeg)) < (h 50 ((x1 + x4).toNatClampNeg)) then (h 50 ((x1 + x4).toNatClampNeg)) else (h 49 ((x3 + x4).toNatClampNeg)))) rfl
      have f7 : iv 1 4 (x4 + 1) := iv_add f3 (iv_lit (lo := 1) (hi := 1) (x := 1) rfl) rfl
      exact ih x1 x3 (x4 + 1) (hs h 49 (x3 + x4).toNatClampNeg (if (h 49 ((x3 + x4).toNatClampNeg)) < (h 50 ((x1 + x4).toNatClampNeg)) then (h 50 ((x1 + x4).toNatClampNeg)) else (h 49 ((x3 + x4).toNatClampNeg)))) I6 f_x1 f_x3 (iv_w (c := 0) (d := 4) f7 rfl) (mu_up f3 mq rfl)
set_option maxRecDepth 100000 in
set_option maxHeartbeats 4000000 in
theorem SX4_join_k50k49 {z : zT} (a1 : Int32) (a3 : Int32) (h : ph_H) (I : IC z h) (f_a1 : iv 0 44 a1) (f_a3 : iv 0 12 a3) : PX4_join_k50k49 a1 a3 h ∧ IC z (FX4_join_k50k49 a1 a3 h) := by
  unfold PX4_join_k50k49 FX4_join_k50k49
  exact SX4_join_k50k49_3 2000 a1 a3 0 h I f_a1 f_a3 (iv_w (c := 0) (d := 4) (iv_lit (lo := 0) (hi := 0) (x := 0) rfl) rfl) (mu_0u (iv_lit (lo := 0) (hi := 0) (x := 0) rfl) rfl)

-- X4_earlierOf
set_option maxRecDepth 100000 in
set_option maxHeartbeats 4000000 in
theorem SX4_earlierOf_30 {z : zT} : ∀ (q : Nat) (x2 : Int32) (x3 : Int32) (x4 : Int32) (h : ph_H), IC z h → iv 0 300 x2 → iv 1 300 x4 → 300 - (x4).toInt < ((q : Nat) : Int) → PX4_earlierOf_30  q x2 x3 x4 h ∧ iv 0 299 (FX4_earlierOf_30  q x2 x3 x4 h) := by
  intro q
  induction q with
  | zero =>
    intro x2 x3 x4 h I f_x2 f_x4 mq
    exact mu_zu f_x4 mq rfl
  | succ q ih =>
    intro x2 x3 x4 h I f_x2 f_x4 mq
    unfold PX4_earlierOf_30 FX4_earlierOf_30
    refine sf_if (fun c1 => ?_) (fun c1 => ?_)
    · exact ⟨trivial, (iv_w (c := 0) (d := 299) (iv_lit (lo := 0) (hi := 0) (x := 0) rfl) rfl)⟩
    · have f2 : iv 1 299 x4 := iv_ltl f_x4 f_x2 (nle c1) rfl
      have f3 : iv 2 300 x2 := iv_ltr f_x2 f_x4 (nle c1) rfl
      have s4 := SX4_isRace (z := z) x4 x2 h I (iv_w (c := 0) (d := 300) f2 rfl) (iv_w (c := 0) (d := 300) f3 rfl)
      refine sf_n s4.1 ?_
      refine sf_if (fun c5 => ?_) (fun c5 => ?_)
      · have f6 : iv 0 0 (FX4_isRace x4 x2 h) := iv_eql s4.2 (iv_lit (lo := 0) (hi := 0) (x := 0) rfl) c5 rfl
        unfold PX4_earlierOf_56 FX4_earlierOf_56
        have f7 : iv 2 300 (x4 + 1) := iv_add f2 (iv_lit (lo := 1) (hi := 1) (x := 1) rfl) rfl
        exact ih x2 x3 (x4 + 1) h I (iv_w (c := 0) (d := 300) f3 rfl) (iv_w (c := 1) (d := 300) f7 rfl) (mu_up f2 mq rfl)
      · have f8 : iv 1 1 (FX4_isRace x4 x2 h) := iv_nel s4.2 c5 rfl
        refine sf_if (fun c9 => ?_) (fun c9 => ?_)
        · have f10 : iv 0 0 x3 := iv_eql (iv_any x3) (iv_lit (lo := 0) (hi := 0) (x := 0) rfl) c9 rfl
          exact ⟨trivial, (iv_w (c := 0) (d := 299) f2 rfl)⟩
        · unfold PX4_earlierOf_56 FX4_earlierOf_56
          have f11 : iv 2 300 (x4 + 1) := iv_add f2 (iv_lit (lo := 1) (hi := 1) (x := 1) rfl) rfl
          exact ih x2 (x3 + (-1)) (x4 + 1) h I (iv_w (c := 0) (d := 300) f3 rfl) (iv_w (c := 1) (d := 300) f11 rfl) (mu_up f2 mq rfl)
set_option maxRecDepth 100000 in
set_option maxHeartbeats 4000000 in
theorem SX4_earlierOf_5 {z : zT} : ∀ (q : Nat) (x2 : Int32) (x3 : Int32) (x4 : Int32) (h : ph_H), IC z h → iv 0 300 x2 → iv 1 300 x4 → 300 - (x4).toInt < ((q : Nat) : Int) → PX4_earlierOf_5  q x2 x3 x4 h ∧ iv 0 299 (FX4_earlierOf_5  q x2 x3 x4 h) := by
  intro q
  induction q with
  | zero =>
    intro x2 x3 x4 h I f_x2 f_x4 mq
    exact mu_zu f_x4 mq rfl
  | succ q ih =>
    intro x2 x3 x4 h I f_x2 f_x4 mq
    unfold PX4_earlierOf_5 FX4_earlierOf_5
    refine sf_if (fun c1 => ?_) (fun c1 => ?_)
    · exact SX4_earlierOf_30 2000 x2 x3 1 h I f_x2 (iv_w (c := 1) (d := 300) (iv_lit (lo := 1) (hi := 1) (x := 1) rfl) rfl) (mu_0u (iv_lit (lo := 1) (hi := 1) (x := 1) rfl) rfl)
    · have f2 : iv 1 299 x4 := iv_ltl f_x4 f_x2 (nle c1) rfl
      have f3 : iv 2 300 x2 := iv_ltr f_x2 f_x4 (nle c1) rfl
      refine sf_n (iv_in f2 rfl) ?_
      have f4 : iv 2 300 (x4 + 1) := iv_add f2 (iv_lit (lo := 1) (hi := 1) (x := 1) rfl) rfl
      exact ih x2 (x3 - (h 51 (x4.toNatClampNeg))) (x4 + 1) h I (iv_w (c := 0) (d := 300) f3 rfl) (iv_w (c := 1) (d := 300) f4 rfl) (mu_up f2 mq rfl)
set_option maxRecDepth 100000 in
set_option maxHeartbeats 4000000 in
theorem SX4_earlierOf {z : zT} (a0 : Int32) (a1 : Int32) (h : ph_H) (I : IC z h) (f_a1 : iv 0 300 a1) : PX4_earlierOf a0 a1 h ∧ iv 0 299 (FX4_earlierOf a0 a1 h) := by
  unfold PX4_earlierOf FX4_earlierOf
  exact SX4_earlierOf_5 2000 a1 a0 1 h I f_a1 (iv_w (c := 1) (d := 300) (iv_lit (lo := 1) (hi := 1) (x := 1) rfl) rfl) (mu_0u (iv_lit (lo := 1) (hi := 1) (x := 1) rfl) rfl)

-- X4_laterOf
set_option maxRecDepth 100000 in
set_option maxHeartbeats 4000000 in
theorem SX4_laterOf_4 {z : zT} : ∀ (q : Nat) (x1 : Int32) (x2 : Int32) (x3 : Int32) (h : ph_H), IC z h → iv 1 301 x3 → 301 - (x3).toInt < ((q : Nat) : Int) → PX4_laterOf_4  q x1 x2 x3 h ∧ iv 0 300 (FX4_laterOf_4  q x1 x2 x3 h) := by
  intro q
  induction q with
  | zero =>
    intro x1 x2 x3 h I f_x3 mq
    exact mu_zu f_x3 mq rfl
  | succ q ih =>
    intro x1 x2 x3 h I f_x3 mq
    unfold PX4_laterOf_4 FX4_laterOf_4
    have f1 : iv 0 300 (h 35 11) := ICv I 35 _
    refine sf_if (fun c2 => ?_) (fun c2 => ?_)
    · exact ⟨trivial, (iv_w (c := 0) (d := 300) (iv_lit (lo := 0) (hi := 0) (x := 0) rfl) rfl)⟩
    · have f3 : iv 1 300 x3 := iv_lel f_x3 f1 (nlt c2) rfl
      have f4 : iv 1 300 (h 35 11) := iv_ler f1 f_x3 (nlt c2) rfl
      refine sf_n (iv_in f3 rfl) ?_
      refine sf_if (fun c5 => ?_) (fun c5 => ?_)
      · have f6 : iv 2 301 (x3 + 1) := iv_add f3 (iv_lit (lo := 1) (hi := 1) (x := 1) rfl) rfl
        exact ih x1 (x2 + (h 51 (x3.toNatClampNeg))) (x3 + 1) h I (iv_w (c := 1) (d := 301) f6 rfl) (mu_up f3 mq rfl)
      · have f7 : iv (-2147483648) 2147483646 x1 := iv_ltl (iv_any x1) (iv_any (x2 + (h 51 (x3.toNatClampNeg)))) (nle c5) rfl
        have f8 : iv (-2147483647) 2147483647 (x2 + (h 51 (x3.toNatClampNeg))) := iv_ltr (iv_any (x2 + (h 51 (x3.toNatClampNeg)))) (iv_any x1) (nle c5) rfl
        exact ⟨trivial, (iv_w (c := 0) (d := 300) f3 rfl)⟩
set_option maxRecDepth 100000 in
set_option maxHeartbeats 4000000 in
theorem SX4_laterOf {z : zT} (a0 : Int32) (h : ph_H) (I : IC z h) : PX4_laterOf a0 h ∧ iv 0 300 (FX4_laterOf a0 h) := by
  unfold PX4_laterOf FX4_laterOf
  exact SX4_laterOf_4 2000 a0 0 1 h I (iv_w (c := 1) (d := 301) (iv_lit (lo := 1) (hi := 1) (x := 1) rfl) rfl) (mu_0u (iv_lit (lo := 1) (hi := 1) (x := 1) rfl) rfl)

-- X3_hasEnded_oc2
set_option maxRecDepth 100000 in
set_option maxHeartbeats 4000000 in
theorem SX3_hasEnded_oc2 {z : zT} (a0 : Int32) (h : ph_H) (I : IC z h) (f_a0 : iv 0 3 a0) : PX3_hasEnded_oc2 a0 h ∧ Qc 0 1 (fun r => r = 0 → iv 0 23 (h 28 (a0.toNatClampNeg))) (FX3_hasEnded_oc2 a0 h) := by
  unfold PX3_hasEnded_oc2 FX3_hasEnded_oc2
  refine sf_n (iv_in f_a0 rfl) ?_
  have s1 := SX5_has_t (z := z) a0 (h 28 (a0.toNatClampNeg)) h I f_a0
  refine sf_n s1.1 ?_
  refine sf_if (fun c2 => ?_) (fun c2 => ?_)
  · have f3 : iv 0 0 (FX5_has_t a0 (h 28 (a0.toNatClampNeg)) h) := iv_eql s1.2.1 (iv_lit (lo := 0) (hi := 0) (x := 0) rfl) c2 rfl
    exact ⟨trivial, (iv_w (c := 0) (d := 1) (iv_lit (lo := 1) (hi := 1) (x := 1) rfl) rfl), fun z => absurd z (by decide)⟩
  · have f4 : iv 0 23 (h 28 (a0.toNatClampNeg)) := iv_and (iv_any _) (s1.2.2 c2) rfl
    have f5 : iv 1 1 (FX5_has_t a0 (h 28 (a0.toNatClampNeg)) h) := iv_nel s1.2.1 c2 rfl
    exact ⟨trivial, (iv_w (c := 0) (d := 1) (iv_lit (lo := 0) (hi := 0) (x := 0) rfl) rfl), fun _ => f4⟩

-- X3_lockIn_oc2
set_option maxRecDepth 100000 in
set_option maxHeartbeats 4000000 in
theorem SX3_lockIn_oc2 {z : zT} (a0 : Int32) (h : ph_H) (I : IC z h) (f_a0 : iv 0 27 a0) : PX3_lockIn_oc2 a0 h ∧ iv (-1) 11 (FX3_lockIn_oc2 a0 h) := by
  unfold PX3_lockIn_oc2 FX3_lockIn_oc2
  refine sf_n (iv_in f_a0 rfl) ?_
  have f1 : iv 0 3 (h 26 (a0.toNatClampNeg)) := ICv I 26 _
  refine sf_if (fun c2 => ?_) (fun c2 => ?_)
  · have f3 : iv 2 2 (h 26 (a0.toNatClampNeg)) := iv_eql f1 (iv_lit (lo := 2) (hi := 2) (x := 2) rfl) c2 rfl
    have f4 : iv 0 11 (h 27 (a0.toNatClampNeg)) := KVn_o I f3 rfl
    unfold PX3_lockIn_oc2_20 FX3_lockIn_oc2_20
    refine sf_n (iv_in f_a0 rfl) ?_
    exact ⟨trivial, (iv_w (c := (-1)) (d := 11) f4 rfl)⟩
  · refine sf_n (iv_in f_a0 rfl) ?_
    refine sf_if (fun c5 => ?_) (fun c5 => ?_)
    · have f6 : iv 3 3 (h 26 (a0.toNatClampNeg)) := iv_eql f1 (iv_lit (lo := 3) (hi := 3) (x := 3) rfl) c5 rfl
      have f7 : iv 0 11 (h 27 (a0.toNatClampNeg)) := KVn_o I f6 rfl
      unfold PX3_lockIn_oc2_20 FX3_lockIn_oc2_20
      refine sf_n (iv_in f_a0 rfl) ?_
      exact ⟨trivial, (iv_w (c := (-1)) (d := 11) f7 rfl)⟩
    · have f8 : iv 0 2 (h 26 (a0.toNatClampNeg)) := iv_nel f1 c5 rfl
      exact ⟨trivial, (iv_w (c := (-1)) (d := 11) (iv_lit (lo := (-1)) (hi := (-1)) (x := (-1)) rfl) rfl)⟩

-- X3_canGo_oc2
set_option maxRecDepth 100000 in
set_option maxHeartbeats 4000000 in
theorem SX3_canGo_oc2 {z : zT} (a0 : Int32) (h : ph_H) (I : IC z h) (f_a0 : iv 0 3 a0) : PX3_canGo_oc2 a0 h ∧ Qc 0 1 (fun r => ¬ r = 0 → iv 0 23 (h 28 (a0.toNatClampNeg))) (FX3_canGo_oc2 a0 h) := by
  unfold PX3_canGo_oc2 FX3_canGo_oc2
  refine sf_n (iv_in f_a0 rfl) ?_
  refine sf_if (fun c1 => ?_) (fun c1 => ?_)
  · have f2 : iv 0 0 (h 29 (a0.toNatClampNeg)) := iv_eql (iv_any (h 29 (a0.toNatClampNeg))) (iv_lit (lo := 0) (hi := 0) (x := 0) rfl) c1 rfl
    exact ⟨trivial, (iv_w (c := 0) (d := 1) (iv_lit (lo := 0) (hi := 0) (x := 0) rfl) rfl), fun z => absurd rfl z⟩
  · refine sf_n (iv_in f_a0 rfl) ?_
    refine sf_if (fun c3 => ?_) (fun c3 => ?_)
    · have f4 : iv 2 2 (h 29 (a0.toNatClampNeg)) := iv_eql (iv_any (h 29 (a0.toNatClampNeg))) (iv_lit (lo := 2) (hi := 2) (x := 2) rfl) c3 rfl
      exact ⟨trivial, (iv_w (c := 0) (d := 1) (iv_lit (lo := 0) (hi := 0) (x := 0) rfl) rfl), fun z => absurd rfl z⟩
    · have s5 := SX3_hasEnded_oc2 (z := z) a0 h I f_a0
      refine sf_n s5.1 ?_
      refine sf_if (fun c6 => ?_) (fun c6 => ?_)
      · have f7 : iv 0 23 (h 28 (a0.toNatClampNeg)) := iv_and (iv_any _) (s5.2.2 c6) rfl
        have f8 : iv 0 0 (FX3_hasEnded_oc2 a0 h) := iv_eql s5.2.1 (iv_lit (lo := 0) (hi := 0) (x := 0) rfl) c6 rfl
        refine sf_n (iv_in f_a0 rfl) ?_
        refine sf_if (fun c9 => ?_) (fun c9 => ?_)
        · have f10 : iv 3 3 (h 29 (a0.toNatClampNeg)) := iv_eql (iv_any (h 29 (a0.toNatClampNeg))) (iv_lit (lo := 3) (hi := 3) (x := 3) rfl) c9 rfl
          refine sf_n (iv_in f_a0 rfl) ?_
          have f11 : iv 0 11 (h 30 (a0.toNatClampNeg)) := ICv I 30 _
          refine sf_n (iv_in f11 rfl) ?_
          refine sf_if (fun c12 => ?_) (fun c12 => ?_)
          · have f13 : iv (-2) (-2) (h 33 ((h 30 (a0.toNatClampNeg)).toNatClampNeg)) := iv_eql (iv_any (h 33 ((h 30 (a0.toNatClampNeg)).toNatClampNeg))) (iv_lit (lo := (-2)) (hi := (-2)) (x := (-2)) rfl) c12 rfl
            exact ⟨trivial, (iv_w (c := 0) (d := 1) (iv_lit (lo := 1) (hi := 1) (x := 1) rfl) rfl), fun _ => f7⟩
          · exact ⟨trivial, (iv_w (c := 0) (d := 1) (iv_lit (lo := 0) (hi := 0) (x := 0) rfl) rfl), fun z => absurd rfl z⟩
        · refine sf_n (iv_in f_a0 rfl) ?_
          have s14 := SX5_firstPart_t (z := z) a0 (h 28 (a0.toNatClampNeg)) h I f_a0 f7
          refine sf_n s14.1 ?_
          refine sf_n (iv_in s14.2 rfl) ?_
          refine sf_if (fun c15 => ?_) (fun c15 => ?_)
          · have f16 : iv 12 12 (h 10 ((FX5_firstPart_t a0 (h 28 (a0.toNatClampNeg)) h).toNatClampNeg)) := iv_eql (iv_any (h 10 ((FX5_firstPart_t a0 (h 28 (a0.toNatClampNeg)) h).toNatClampNeg))) (iv_lit (lo := 12) (hi := 12) (x := 12) rfl) c15 rfl
            have f17 : iv 1 381 ((FX5_firstPart_t a0 (h 28 (a0.toNatClampNeg)) h) + 1) := iv_add s14.2 (iv_lit (lo := 1) (hi := 1) (x := 1) rfl) rfl
            refine sf_n (iv_in f17 rfl) ?_
            have s18 := SX3_slotOf a0 (h 10 (((FX5_firstPart_t a0 (h 28 (a0.toNatClampNeg)) h) + 1).toNatClampNeg)) f_a0
            refine sf_n s18.1 ?_
            have s19 := SX3_lockIn_oc2 (z := z) (FX3_slotOf a0 (h 10 (((FX5_firstPart_t a0 (h 28 (a0.toNatClampNeg)) h) + 1).toNatClampNeg))) h I (iv_w (c := 0) (d := 27) s18.2 rfl)
            refine sf_n s19.1 ?_
            refine sf_if (fun c20 => ?_) (fun c20 => ?_)
            · have f21 : iv (-1) (-1) (FX3_lockIn_oc2 (FX3_slotOf a0 (h 10 (((FX5_firstPart_t a0 (h 28 (a0.toNatClampNeg)) h) + 1).toNatClampNeg))) h) := iv_ltl s19.2 (iv_lit (lo := 0) (hi := 0) (x := 0) rfl) c20 rfl
              unfold PX3_canGo_oc2_137 FX3_canGo_oc2_137
              exact ⟨trivial, (iv_w (c := 0) (d := 1) (iv_lit (lo := 1) (hi := 1) (x := 1) rfl) rfl), fun _ => f7⟩
            · have f22 : iv 0 11 (FX3_lockIn_oc2 (FX3_slotOf a0 (h 10 (((FX5_firstPart_t a0 (h 28 (a0.toNatClampNeg)) h) + 1).toNatClampNeg))) h) := iv_ler s19.2 (iv_lit (lo := 0) (hi := 0) (x := 0) rfl) (nlt c20) rfl
              refine sf_n (iv_in f22 rfl) ?_
              refine sf_if (fun c23 => ?_) (fun c23 => ?_)
              · have f24 : iv (-2) (-2) (h 33 ((FX3_lockIn_oc2 (FX3_slotOf a0 (h 10 (((FX5_firstPart_t a0 (h 28 (a0.toNatClampNeg)) h) + 1).toNatClampNeg))) h).toNatClampNeg)) := iv_eql (iv_any (h 33 ((FX3_lockIn_oc2 (FX3_slotOf a0 (h 10 (((FX5_firstPart_t a0 (h 28 (a0.toNatClampNeg)) h) + 1).toNatClampNeg))) h).toNatClampNeg))) (iv_lit (lo := (-2)) (hi := (-2)) (x := (-2)) rfl) c23 rfl
                unfold PX3_canGo_oc2_137 FX3_canGo_oc2_137
                exact ⟨trivial, (iv_w (c := 0) (d := 1) (iv_lit (lo := 1) (hi := 1) (x := 1) rfl) rfl), fun _ => f7⟩
              · refine sf_n (iv_in f22 rfl) ?_
                refine sf_if (fun c25 => ?_) (fun c25 => ?_)
                · have f26 : iv 0 3 (h 33 ((FX3_lockIn_oc2 (FX3_slotOf a0 (h 10 (((FX5_firstPart_t a0 (h 28 (a0.toNatClampNeg)) h) + 1).toNatClampNeg))) h).toNatClampNeg)) := iv_eql (iv_any (h 33 ((FX3_lockIn_oc2 (FX3_slotOf a0 (h 10 (((FX5_firstPart_t a0 (h 28 (a0.toNatClampNeg)) h) + 1).toNatClampNeg))) h).toNatClampNeg))) f_a0 c25 rfl
                  unfold PX3_canGo_oc2_137 FX3_canGo_oc2_137
                  exact ⟨trivial, (iv_w (c := 0) (d := 1) (iv_lit (lo := 1) (hi := 1) (x := 1) rfl) rfl), fun _ => f7⟩
                · exact ⟨trivial, (iv_w (c := 0) (d := 1) (iv_lit (lo := 0) (hi := 0) (x := 0) rfl) rfl), fun z => absurd rfl z⟩
          · exact ⟨trivial, (iv_w (c := 0) (d := 1) (iv_lit (lo := 1) (hi := 1) (x := 1) rfl) rfl), fun _ => f7⟩
      · have f27 : iv 1 1 (FX3_hasEnded_oc2 a0 h) := iv_nel s5.2.1 c6 rfl
        exact ⟨trivial, (iv_w (c := 0) (d := 1) (iv_lit (lo := 0) (hi := 0) (x := 0) rfl) rfl), fun z => absurd rfl z⟩

-- X3_hold_oc2
set_option maxRecDepth 100000 in
set_option maxHeartbeats 4000000 in
theorem SX3_hold_oc2 {z : zT} (a0 : Int32) (a1 : Int32) (a2 : Int32) (h : ph_H) (I : IC z h) (f_a0 : iv 0 27 a0) (f_a1 : iv 0 3 a1) (q : a1 = 0 ∨ iv 0 11 a2) : PX3_hold_oc2 a0 a1 a2 h ∧ QC z 0 0 (FX3_hold_oc2 a0 a1 a2 h) := by
  unfold PX3_hold_oc2 FX3_hold_oc2
  refine sf_n (iv_in f_a0 rfl) ?_
  refine sf_n (iv_in f_a0 rfl) ?_
  have I2 : IC z (hs (hs h 26 a0.toNatClampNeg a1) 27 a0.toNatClampNeg a2) := ICkv_o I a0.toNatClampNeg f_a1 q
  exact ⟨trivial, QC_mk (iv_lit (lo := 0) (hi := 0) (x := 0) rfl) I2⟩

-- X3_getCell_oc2
set_option maxRecDepth 100000 in
set_option maxHeartbeats 4000000 in
theorem SX3_getCell_oc2 {z : zT} (a0 : Int32) (a1 : Int32) (h : ph_H) (I : IC z h) (f_a0 : iv 0 27 a0) (f_a1 : iv 0 11 a1) : PX3_getCell_oc2 a0 a1 h ∧ QC z 0 0 (FX3_getCell_oc2 a0 a1 h) := by
  unfold PX3_getCell_oc2 FX3_getCell_oc2
  have I1 : IC z (hs h 25 14 a1) := ICs I (k := 25) (i := 14) (v := a1) (iv_any a1) rfl
  refine sf_n (iv_in f_a1 rfl) ?_
  have f2 : iv 0 3 (h 26 (a1.toNatClampNeg)) := ICv I 26 _
  refine sf_n (iv_in f_a1 rfl) ?_
  have s3 := SX3_hold_oc2 (z := z) a0 (h 26 (a1.toNatClampNeg)) (h 27 (a1.toNatClampNeg)) (hs h 25 14 a1) I1 f_a0 f2 (I.2.1.2.1 _)
  refine sf_n s3.1 ?_
  exact ⟨trivial, QC_mk s3.2.1 s3.2.2⟩

-- X3_goTo_oc2
set_option maxRecDepth 100000 in
set_option maxHeartbeats 4000000 in
theorem SX3_goTo_oc2 {z : zT} (a0 : Int32) (h : ph_H) (I : IC z h) : PX3_goTo_oc2 a0 h ∧ QC z 0 0 (FX3_goTo_oc2 a0 h) := by
  unfold PX3_goTo_oc2 FX3_goTo_oc2
  have I1 : IC z (hs h 25 13 a0) := ICs I (k := 25) (i := 13) (v := a0) (iv_any a0) rfl
  exact ⟨trivial, QC_mk (iv_lit (lo := 0) (hi := 0) (x := 0) rfl) I1⟩

-- X3_goUnless_oc2
set_option maxRecDepth 100000 in
set_option maxHeartbeats 4000000 in
theorem SX3_goUnless_oc2 {z : zT} (a0 : Int32) (a1 : Int32) (h : ph_H) (I : IC z h) (f_a0 : iv 0 27 a0) : PX3_goUnless_oc2 a0 a1 h ∧ QC z 0 1 (FX3_goUnless_oc2 a0 a1 h) := by
  unfold PX3_goUnless_oc2 FX3_goUnless_oc2
  refine sf_n (iv_in f_a0 rfl) ?_
  have f1 : iv 0 3 (h 26 (a0.toNatClampNeg)) := ICv I 26 _
  refine sf_if (fun c2 => ?_) (fun c2 => ?_)
  · have f3 : iv 0 0 (h 26 (a0.toNatClampNeg)) := iv_eql f1 (iv_lit (lo := 0) (hi := 0) (x := 0) rfl) c2 rfl
    refine sf_n (iv_in f_a0 rfl) ?_
    refine sf_if (fun c4 => ?_) (fun c4 => ?_)
    · have f5 : iv 0 0 (h 27 (a0.toNatClampNeg)) := iv_eql (iv_any (h 27 (a0.toNatClampNeg))) (iv_lit (lo := 0) (hi := 0) (x := 0) rfl) c4 rfl
      have s6 := SX3_goTo_oc2 (z := z) a1 h I
      refine sf_n s6.1 ?_
      unfold PX3_goUnless_oc2_25 FX3_goUnless_oc2_25
      exact ⟨trivial, QC_mk (iv_w (c := 0) (d := 1) s6.2.1 rfl) s6.2.2⟩
    · exact ⟨trivial, QC_mk (iv_w (c := 0) (d := 1) (iv_lit (lo := 0) (hi := 0) (x := 0) rfl) rfl) I⟩
  · have f7 : iv 1 3 (h 26 (a0.toNatClampNeg)) := iv_nel f1 c2 rfl
    have f8 : iv 0 11 (h 27 (a0.toNatClampNeg)) := KVn_o I f7 rfl
    exact ⟨trivial, QC_mk (iv_w (c := 0) (d := 1) (iv_lit (lo := 1) (hi := 1) (x := 1) rfl) rfl) I⟩

-- X3_free_oc2
set_option maxRecDepth 100000 in
set_option maxHeartbeats 4000000 in
theorem SX3_free_oc2 {z : zT} (a0 : Int32) (h : ph_H) (I : IC z h) (f_a0 : iv 0 11 a0) : PX3_free_oc2 a0 h ∧ QC z 0 0 (FX3_free_oc2 a0 h) := by
  unfold PX3_free_oc2 FX3_free_oc2
  refine sf_n (iv_in f_a0 rfl) ?_
  have I1 : IC z (hs h 33 a0.toNatClampNeg (-2)) := ICs I (k := 33) (i := a0.toNatClampNeg) (v := (-2)) (iv_any (-2)) rfl
  have I2 : IC z (hs (hs h 33 a0.toNatClampNeg (-2)) 25 16 2) := ICs I1 (k := 25) (i := 16) (v := 2) (iv_w (c := 0) (d := 4) (iv_lit (lo := 2) (hi := 2) (x := 2) rfl) rfl) rfl
  have I3 : IC z (hs (hs (hs h 33 a0.toNatClampNeg (-2)) 25 16 2) 25 17 a0) := ICs I2 (k := 25) (i := 17) (v := a0) f_a0 rfl
  exact ⟨trivial, QC_mk (iv_lit (lo := 0) (hi := 0) (x := 0) rfl) I3⟩

-- X3_leaveLock_oc2
set_option maxRecDepth 100000 in
set_option maxHeartbeats 4000000 in
theorem SX3_leaveLock_oc2 {z : zT} (a0 : Int32) (a1 : Int32) (h : ph_H) (I : IC z h) (f_a1 : iv 0 27 a1) : PX3_leaveLock_oc2 a0 a1 h ∧ QC z 0 6 (FX3_leaveLock_oc2 a0 a1 h) := by
  unfold PX3_leaveLock_oc2 FX3_leaveLock_oc2
  have s1 := SX3_lockIn_oc2 (z := z) a1 h I f_a1
  refine sf_n s1.1 ?_
  refine sf_if (fun c2 => ?_) (fun c2 => ?_)
  · have f3 : iv 0 11 (FX3_lockIn_oc2 a1 h) := iv_ler s1.2 (iv_lit (lo := 0) (hi := 0) (x := 0) rfl) c2 rfl
    refine sf_n (iv_in f3 rfl) ?_
    refine sf_if (fun c4 => ?_) (fun c4 => ?_)
    · have s5 := SX3_free_oc2 (z := z) (FX3_lockIn_oc2 a1 h) h I f3
      refine sf_n s5.1 ?_
      exact ⟨trivial, QC_mk (iv_w (c := 0) (d := 6) s5.2.1 rfl) s5.2.2⟩
    · exact ⟨trivial, QC_mk (iv_w (c := 0) (d := 6) (iv_lit (lo := 6) (hi := 6) (x := 6) rfl) rfl) I⟩
  · have f6 : iv (-1) (-1) (FX3_lockIn_oc2 a1 h) := iv_ltl s1.2 (iv_lit (lo := 0) (hi := 0) (x := 0) rfl) (nle c2) rfl
    exact ⟨trivial, QC_mk (iv_w (c := 0) (d := 6) (iv_lit (lo := 1) (hi := 1) (x := 1) rfl) rfl) I⟩

-- X3_gateIn_oc2
set_option maxRecDepth 100000 in
set_option maxHeartbeats 4000000 in
theorem SX3_gateIn_oc2 {z : zT} (a0 : Int32) (h : ph_H) (I : IC z h) (f_a0 : iv 0 27 a0) : PX3_gateIn_oc2 a0 h ∧ iv (-1) 11 (FX3_gateIn_oc2 a0 h) := by
  unfold PX3_gateIn_oc2 FX3_gateIn_oc2
  refine sf_n (iv_in f_a0 rfl) ?_
  have f1 : iv 0 3 (h 26 (a0.toNatClampNeg)) := ICv I 26 _
  refine sf_if (fun c2 => ?_) (fun c2 => ?_)
  · have f3 : iv 3 3 (h 26 (a0.toNatClampNeg)) := iv_eql f1 (iv_lit (lo := 3) (hi := 3) (x := 3) rfl) c2 rfl
    have f4 : iv 0 11 (h 27 (a0.toNatClampNeg)) := KVn_o I f3 rfl
    refine sf_n (iv_in f_a0 rfl) ?_
    exact ⟨trivial, (iv_w (c := (-1)) (d := 11) f4 rfl)⟩
  · have f5 : iv 0 2 (h 26 (a0.toNatClampNeg)) := iv_nel f1 c2 rfl
    exact ⟨trivial, (iv_w (c := (-1)) (d := 11) (iv_lit (lo := (-1)) (hi := (-1)) (x := (-1)) rfl) rfl)⟩

-- X3_lieDown_oc2
set_option maxRecDepth 100000 in
set_option maxHeartbeats 4000000 in
theorem SX3_lieDown_oc2 {z : zT} (a0 : Int32) (a1 : Int32) (h : ph_H) (I : IC z h) (f_a0 : iv 0 3 a0) (f_a1 : iv 0 27 a1) : PX3_lieDown_oc2 a0 a1 h ∧ QC z 0 6 (FX3_lieDown_oc2 a0 a1 h) := by
  unfold PX3_lieDown_oc2 FX3_lieDown_oc2
  have s1 := SX3_gateIn_oc2 (z := z) a1 h I f_a1
  refine sf_n s1.1 ?_
  refine sf_if (fun c2 => ?_) (fun c2 => ?_)
  · have f3 : iv 0 11 (FX3_gateIn_oc2 a1 h) := iv_ler s1.2 (iv_lit (lo := 0) (hi := 0) (x := 0) rfl) c2 rfl
    refine sf_n (iv_in f3 rfl) ?_
    refine sf_if (fun c4 => ?_) (fun c4 => ?_)
    · have f5 : iv 0 3 (h 33 ((FX3_gateIn_oc2 a1 h).toNatClampNeg)) := iv_eql (iv_any (h 33 ((FX3_gateIn_oc2 a1 h).toNatClampNeg))) f_a0 c4 rfl
      refine sf_n (iv_in f_a0 rfl) ?_
      have I6 : IC z (hs h 29 a0.toNatClampNeg 2) := ICs I (k := 29) (i := a0.toNatClampNeg) (v := 2) (iv_any 2) rfl
      refine sf_n (iv_in f_a0 rfl) ?_
      have I7 : IC z (hs (hs h 29 a0.toNatClampNeg 2) 30 a0.toNatClampNeg (FX3_gateIn_oc2 a1 h)) := ICs I6 (k := 30) (i := a0.toNatClampNeg) (v := (FX3_gateIn_oc2 a1 h)) f3 rfl
      refine sf_n (iv_in f_a0 rfl) ?_
      have I8 : IC z (hs (hs (hs h 29 a0.toNatClampNeg 2) 30 a0.toNatClampNeg (FX3_gateIn_oc2 a1 h)) 25 13 (h 28 (a0.toNatClampNeg))) := ICs I7 (k := 25) (i := 13) (v := (h 28 (a0.toNatClampNeg))) (iv_any (h 28 (a0.toNatClampNeg))) rfl
      have s9 := SX3_free_oc2 (z := z) (FX3_gateIn_oc2 a1 h) (hs (hs (hs h 29 a0.toNatClampNeg 2) 30 a0.toNatClampNeg (FX3_gateIn_oc2 a1 h)) 25 13 (h 28 (a0.toNatClampNeg))) I8 f3
      refine sf_n s9.1 ?_
      exact ⟨trivial, QC_mk (iv_w (c := 0) (d := 6) s9.2.1 rfl) s9.2.2⟩
    · exact ⟨trivial, QC_mk (iv_w (c := 0) (d := 6) (iv_lit (lo := 6) (hi := 6) (x := 6) rfl) rfl) I⟩
  · have f10 : iv (-1) (-1) (FX3_gateIn_oc2 a1 h) := iv_ltl s1.2 (iv_lit (lo := 0) (hi := 0) (x := 0) rfl) (nle c2) rfl
    exact ⟨trivial, QC_mk (iv_w (c := 0) (d := 6) (iv_lit (lo := 1) (hi := 1) (x := 1) rfl) rfl) I⟩

-- X3_makeThing_oc2
set_option maxRecDepth 100000 in
set_option maxHeartbeats 4000000 in
theorem SX3_makeThing_oc2 {z : zT} (a0 : Int32) (a1 : Int32) (a2 : Int32) (h : ph_H) (I : IC z h) (f_a0 : iv 0 27 a0) (f_a1 : iv 0 3 a1) (f_a2 : iv 0 16 a2) (g_25_10 : iv 0 11 (h 25 10)) : PX3_makeThing_oc2 a0 a1 a2 h ∧ QC z 0 0 (FX3_makeThing_oc2 a0 a1 a2 h) := by
  unfold PX3_makeThing_oc2 FX3_makeThing_oc2
  have f1 : iv 1 12 ((h 25 10) + 1) := iv_add g_25_10 (iv_lit (lo := 1) (hi := 1) (x := 1) rfl) rfl
  have I2 : IC z (hs h 25 10 ((h 25 10) + 1)) := ICs I (k := 25) (i := 10) (v := ((h 25 10) + 1)) (iv_w (c := 0) (d := 12) f1 rfl) rfl
  refine sf_n (iv_in g_25_10 rfl) ?_
  have I3 : IC z (hs (hs h 25 10 ((h 25 10) + 1)) 31 (h 25 10).toNatClampNeg a1) := ICs I2 (k := 31) (i := (h 25 10).toNatClampNeg) (v := a1) (iv_any a1) rfl
  refine sf_n (iv_in g_25_10 rfl) ?_
  have I4 : IC z (hs (hs (hs h 25 10 ((h 25 10) + 1)) 31 (h 25 10).toNatClampNeg a1) 32 (h 25 10).toNatClampNeg a2) := ICs I3 (k := 32) (i := (h 25 10).toNatClampNeg) (v := a2) f_a2 rfl
  refine sf_n (iv_in g_25_10 rfl) ?_
  have I5 : IC z (hs (hs (hs (hs h 25 10 ((h 25 10) + 1)) 31 (h 25 10).toNatClampNeg a1) 32 (h 25 10).toNatClampNeg a2) 33 (h 25 10).toNatClampNeg (-2)) := ICs I4 (k := 33) (i := (h 25 10).toNatClampNeg) (v := (-2)) (iv_any (-2)) rfl
  refine sf_n (iv_in f_a0 rfl) ?_
  refine sf_n (iv_in f_a0 rfl) ?_
  have I7 : IC z (hs (hs (hs (hs (hs (hs h 25 10 ((h 25 10) + 1)) 31 (h 25 10).toNatClampNeg a1) 32 (h 25 10).toNatClampNeg a2) 33 (h 25 10).toNatClampNeg (-2)) 26 a0.toNatClampNeg a1) 27 a0.toNatClampNeg (h 25 10)) := ICkv_o I5 a0.toNatClampNeg f_a1 (Or.inr g_25_10)
  exact ⟨trivial, QC_mk (iv_lit (lo := 0) (hi := 0) (x := 0) rfl) I7⟩

-- X3_makeLock_oc2
set_option maxRecDepth 100000 in
set_option maxHeartbeats 4000000 in
theorem SX3_makeLock_oc2 {z : zT} (a0 : Int32) (a1 : Int32) (h : ph_H) (I : IC z h) (f_a0 : iv 0 27 a0) (f_a1 : iv 0 1 a1) : PX3_makeLock_oc2 a0 a1 h ∧ QC z 0 3 (FX3_makeLock_oc2 a0 a1 h) := by
  unfold PX3_makeLock_oc2 FX3_makeLock_oc2
  have f1 : iv 0 12 (h 25 10) := ICv I 25 _
  refine sf_if (fun c2 => ?_) (fun c2 => ?_)
  · have f3 : iv 0 11 (h 25 10) := iv_ltl f1 (iv_lit (lo := 12) (hi := 12) (x := 12) rfl) c2 rfl
    refine sf_if (fun c4 => ?_) (fun c4 => ?_)
    · have f5 : iv 0 0 a1 := iv_eql f_a1 (iv_lit (lo := 0) (hi := 0) (x := 0) rfl) c4 rfl
      unfold PX3_makeLock_oc2_22 FX3_makeLock_oc2_22
      have s6 := SX3_makeThing_oc2 (z := z) a0 2 0 h I f_a0 (iv_w (c := 0) (d := 3) (iv_lit (lo := 2) (hi := 2) (x := 2) rfl) rfl) (iv_w (c := 0) (d := 16) (iv_lit (lo := 0) (hi := 0) (x := 0) rfl) rfl) f3
      refine sf_n s6.1 ?_
      exact ⟨trivial, QC_mk (iv_w (c := 0) (d := 3) s6.2.1 rfl) s6.2.2⟩
    · have f7 : iv 1 1 a1 := iv_nel f_a1 c4 rfl
      unfold PX3_makeLock_oc2_22 FX3_makeLock_oc2_22
      have s8 := SX3_makeThing_oc2 (z := z) a0 3 0 h I f_a0 (iv_w (c := 0) (d := 3) (iv_lit (lo := 3) (hi := 3) (x := 3) rfl) rfl) (iv_w (c := 0) (d := 16) (iv_lit (lo := 0) (hi := 0) (x := 0) rfl) rfl) f3
      refine sf_n s8.1 ?_
      exact ⟨trivial, QC_mk (iv_w (c := 0) (d := 3) s8.2.1 rfl) s8.2.2⟩
  · have f9 : iv 12 12 (h 25 10) := iv_ler f1 (iv_lit (lo := 12) (hi := 12) (x := 12) rfl) (nlt c2) rfl
    exact ⟨trivial, QC_mk (iv_w (c := 0) (d := 3) (iv_lit (lo := 3) (hi := 3) (x := 3) rfl) rfl) I⟩

-- X3_makeRow_oc2
set_option maxRecDepth 100000 in
set_option maxHeartbeats 4000000 in
theorem SX3_makeRow_oc2_44 {z : zT} : ∀ (q : Nat) (x1 : Int32) (x3 : Int32) (x4 : Int32) (h : ph_H), IC z h → iv 0 27 x1 → iv 0 16 x3 → iv 0 16 x4 → iv 0 11 (h 25 10) → 16 - (x4).toInt < ((q : Nat) : Int) → PX3_makeRow_oc2_44  q x1 x3 x4 h ∧ QC z 0 3 (FX3_makeRow_oc2_44  q x1 x3 x4 h) := by
  intro q
  induction q with
  | zero =>
    intro x1 x3 x4 h I f_x1 f_x3 f_x4 g_25_10 mq
    exact mu_zu f_x4 mq rfl
  | succ q ih =>
    intro x1 x3 x4 h I f_x1 f_x3 f_x4 g_25_10 mq
    unfold PX3_makeRow_oc2_44 FX3_makeRow_oc2_44
    refine sf_if (fun c1 => ?_) (fun c1 => ?_)
    · have s2 := SX3_makeThing_oc2 (z := z) x1 1 x3 h I f_x1 (iv_w (c := 0) (d := 3) (iv_lit (lo := 1) (hi := 1) (x := 1) rfl) rfl) f_x3 g_25_10
      refine sf_n s2.1 ?_
      exact ⟨trivial, QC_mk (iv_w (c := 0) (d := 3) s2.2.1 rfl) s2.2.2⟩
    · have f3 : iv 0 15 x4 := iv_ltl f_x4 f_x3 (nle c1) rfl
      have f4 : iv 1 16 x3 := iv_ltr f_x3 f_x4 (nle c1) rfl
      have f5 : iv 0 176 ((h 25 10) * 16) := iv_mulr (c := 16) rfl g_25_10 rfl
      have f6 : iv 0 191 (((h 25 10) * 16) + x4) := iv_add f5 f3 rfl
      refine sf_n (iv_in f6 rfl) ?_
      have I7 : IC z (hs h 34 (((h 25 10) * 16) + x4).toNatClampNeg 0) := ICs I (k := 34) (i := (((h 25 10) * 16) + x4).toNatClampNeg) (v := 0) (iv_any 0) rfl
      have f8 : iv 1 16 (x4 + 1) := iv_add f3 (iv_lit (lo := 1) (hi := 1) (x := 1) rfl) rfl
      exact ih x1 x3 (x4 + 1) (hs h 34 (((h 25 10) * 16) + x4).toNatClampNeg 0) I7 f_x1 (iv_w (c := 0) (d := 16) f4 rfl) (iv_w (c := 0) (d := 16) f8 rfl) (iv_r (hz_k (by decide)) g_25_10) (mu_up f3 mq rfl)
set_option maxRecDepth 100000 in
set_option maxHeartbeats 4000000 in
theorem SX3_makeRow_oc2 {z : zT} (a0 : Int32) (a1 : Int32) (h : ph_H) (I : IC z h) (f_a0 : iv 0 27 a0) (f_a1 : iv 0 27 a1) : PX3_makeRow_oc2 a0 a1 h ∧ QC z 0 3 (FX3_makeRow_oc2 a0 a1 h) := by
  unfold PX3_makeRow_oc2 FX3_makeRow_oc2
  refine sf_n (iv_in f_a1 rfl) ?_
  have f1 : iv 0 3 (h 26 (a1.toNatClampNeg)) := ICv I 26 _
  refine sf_if (fun c2 => ?_) (fun c2 => ?_)
  · have f3 : iv 0 0 (h 26 (a1.toNatClampNeg)) := iv_eql f1 (iv_lit (lo := 0) (hi := 0) (x := 0) rfl) c2 rfl
    refine sf_n (iv_in f_a1 rfl) ?_
    refine sf_if (fun c4 => ?_) (fun c4 => ?_)
    · have f5 : iv 0 2147483647 (h 27 (a1.toNatClampNeg)) := iv_ler (iv_any (h 27 (a1.toNatClampNeg))) (iv_lit (lo := 0) (hi := 0) (x := 0) rfl) c4 rfl
      refine sf_if (fun c6 => ?_) (fun c6 => ?_)
      · have f7 : iv 17 2147483647 (h 27 (a1.toNatClampNeg)) := iv_ltr f5 (iv_lit (lo := 16) (hi := 16) (x := 16) rfl) c6 rfl
        exact ⟨trivial, QC_mk (iv_w (c := 0) (d := 3) (iv_lit (lo := 3) (hi := 3) (x := 3) rfl) rfl) I⟩
      · have f8 : iv 0 16 (h 27 (a1.toNatClampNeg)) := iv_lel f5 (iv_lit (lo := 16) (hi := 16) (x := 16) rfl) (nlt c6) rfl
        have f9 : iv 0 12 (h 25 10) := ICv I 25 _
        refine sf_if (fun c10 => ?_) (fun c10 => ?_)
        · have f11 : iv 0 11 (h 25 10) := iv_ltl f9 (iv_lit (lo := 12) (hi := 12) (x := 12) rfl) c10 rfl
          exact SX3_makeRow_oc2_44 2000 a0 (h 27 (a1.toNatClampNeg)) 0 h I f_a0 f8 (iv_w (c := 0) (d := 16) (iv_lit (lo := 0) (hi := 0) (x := 0) rfl) rfl) f11 (mu_0u (iv_lit (lo := 0) (hi := 0) (x := 0) rfl) rfl)
        · have f12 : iv 12 12 (h 25 10) := iv_ler f9 (iv_lit (lo := 12) (hi := 12) (x := 12) rfl) (nlt c10) rfl
          exact ⟨trivial, QC_mk (iv_w (c := 0) (d := 3) (iv_lit (lo := 3) (hi := 3) (x := 3) rfl) rfl) I⟩
    · have f13 : iv (-2147483648) (-1) (h 27 (a1.toNatClampNeg)) := iv_ltl (iv_any (h 27 (a1.toNatClampNeg))) (iv_lit (lo := 0) (hi := 0) (x := 0) rfl) (nle c4) rfl
      exact ⟨trivial, QC_mk (iv_w (c := 0) (d := 3) (iv_lit (lo := 2) (hi := 2) (x := 2) rfl) rfl) I⟩
  · have f14 : iv 1 3 (h 26 (a1.toNatClampNeg)) := iv_nel f1 c2 rfl
    have f15 : iv 0 11 (h 27 (a1.toNatClampNeg)) := KVn_o I f14 rfl
    exact ⟨trivial, QC_mk (iv_w (c := 0) (d := 3) (iv_lit (lo := 1) (hi := 1) (x := 1) rfl) rfl) I⟩

-- X3_putCell_oc2
set_option maxRecDepth 100000 in
set_option maxHeartbeats 4000000 in
theorem SX3_putCell_oc2 {z : zT} (a0 : Int32) (a1 : Int32) (h : ph_H) (I : IC z h) (f_a0 : iv 0 11 a0) (f_a1 : iv 0 27 a1) : PX3_putCell_oc2 a0 a1 h ∧ QC z 0 0 (FX3_putCell_oc2 a0 a1 h) := by
  unfold PX3_putCell_oc2 FX3_putCell_oc2
  have I1 : IC z (hs h 25 15 a0) := ICs I (k := 25) (i := 15) (v := a0) (iv_any a0) rfl
  refine sf_n (iv_in f_a1 rfl) ?_
  have f2 : iv 0 3 (h 26 (a1.toNatClampNeg)) := ICv I 26 _
  refine sf_n (iv_in f_a1 rfl) ?_
  have s3 := SX3_hold_oc2 (z := z) a0 (h 26 (a1.toNatClampNeg)) (h 27 (a1.toNatClampNeg)) (hs h 25 15 a0) I1 (iv_w (c := 0) (d := 27) f_a0 rfl) f2 (I.2.1.2.1 _)
  refine sf_n s3.1 ?_
  exact ⟨trivial, QC_mk s3.2.1 s3.2.2⟩

-- X3_hasRowPlace_oc2
set_option maxRecDepth 100000 in
set_option maxHeartbeats 4000000 in
theorem SX3_hasRowPlace_oc2 {z : zT} (a0 : Int32) (a1 : Int32) (h : ph_H) (I : IC z h) : PX3_hasRowPlace_oc2 a0 a1 h ∧ Qc 0 1 (fun r => ¬ r = 0 → iv 0 11 a0 ∧ iv 0 15 a1) (FX3_hasRowPlace_oc2 a0 a1 h) := by
  unfold PX3_hasRowPlace_oc2 FX3_hasRowPlace_oc2
  refine sf_if (fun c1 => ?_) (fun c1 => ?_)
  · have f2 : iv (-2147483648) (-1) a0 := iv_ltl (iv_any a0) (iv_lit (lo := 0) (hi := 0) (x := 0) rfl) c1 rfl
    exact ⟨trivial, (iv_w (c := 0) (d := 1) (iv_lit (lo := 0) (hi := 0) (x := 0) rfl) rfl), fun z => absurd rfl z⟩
  · have f3 : iv 0 2147483647 a0 := iv_ler (iv_any a0) (iv_lit (lo := 0) (hi := 0) (x := 0) rfl) (nlt c1) rfl
    have f4 : iv 0 12 (h 25 10) := ICv I 25 _
    refine sf_if (fun c5 => ?_) (fun c5 => ?_)
    · exact ⟨trivial, (iv_w (c := 0) (d := 1) (iv_lit (lo := 0) (hi := 0) (x := 0) rfl) rfl), fun z => absurd rfl z⟩
    · have f6 : iv 0 11 a0 := iv_ltl f3 f4 (nle c5) rfl
      have f7 : iv 1 12 (h 25 10) := iv_ltr f4 f3 (nle c5) rfl
      refine sf_n (iv_in f6 rfl) ?_
      refine sf_if (fun c8 => ?_) (fun c8 => ?_)
      · have f9 : iv 1 1 (h 31 (a0.toNatClampNeg)) := iv_eql (iv_any (h 31 (a0.toNatClampNeg))) (iv_lit (lo := 1) (hi := 1) (x := 1) rfl) c8 rfl
        refine sf_if (fun c10 => ?_) (fun c10 => ?_)
        · have f11 : iv (-2147483648) (-1) a1 := iv_ltl (iv_any a1) (iv_lit (lo := 0) (hi := 0) (x := 0) rfl) c10 rfl
          exact ⟨trivial, (iv_w (c := 0) (d := 1) (iv_lit (lo := 0) (hi := 0) (x := 0) rfl) rfl), fun z => absurd rfl z⟩
        · have f12 : iv 0 2147483647 a1 := iv_ler (iv_any a1) (iv_lit (lo := 0) (hi := 0) (x := 0) rfl) (nlt c10) rfl
          refine sf_n (iv_in f6 rfl) ?_
          have f13 : iv 0 16 (h 32 (a0.toNatClampNeg)) := ICv I 32 _
          refine sf_if (fun c14 => ?_) (fun c14 => ?_)
          · exact ⟨trivial, (iv_w (c := 0) (d := 1) (iv_lit (lo := 0) (hi := 0) (x := 0) rfl) rfl), fun z => absurd rfl z⟩
          · have f15 : iv 0 15 a1 := iv_ltl f12 f13 (nle c14) rfl
            have f16 : iv 1 16 (h 32 (a0.toNatClampNeg)) := iv_ltr f13 f12 (nle c14) rfl
            exact ⟨trivial, (iv_w (c := 0) (d := 1) (iv_lit (lo := 1) (hi := 1) (x := 1) rfl) rfl), fun _ => ⟨f6, f15⟩⟩
      · exact ⟨trivial, (iv_w (c := 0) (d := 1) (iv_lit (lo := 0) (hi := 0) (x := 0) rfl) rfl), fun z => absurd rfl z⟩
end MG_18_s01
section MG_18_s02
-- X3_readRow_oc2
set_option maxRecDepth 100000 in
set_option maxHeartbeats 4000000 in
theorem SX3_readRow_oc2 {z : zT} (a0 : Int32) (a1 : Int32) (a2 : Int32) (h : ph_H) (I : IC z h) (f_a0 : iv 0 27 a0) (f_a1 : iv 0 27 a1) (f_a2 : iv 0 27 a2) : PX3_readRow_oc2 a0 a1 a2 h ∧ QC z 0 4 (FX3_readRow_oc2 a0 a1 a2 h) := by
  unfold PX3_readRow_oc2 FX3_readRow_oc2
  refine sf_n (iv_in f_a1 rfl) ?_
  have f1 : iv 0 3 (h 26 (a1.toNatClampNeg)) := ICv I 26 _
  refine sf_if (fun c2 => ?_) (fun c2 => ?_)
  · have f3 : iv 1 1 (h 26 (a1.toNatClampNeg)) := iv_eql f1 (iv_lit (lo := 1) (hi := 1) (x := 1) rfl) c2 rfl
    have f4 : iv 0 11 (h 27 (a1.toNatClampNeg)) := KVn_o I f3 rfl
    refine sf_n (iv_in f_a2 rfl) ?_
    have f5 : iv 0 3 (h 26 (a2.toNatClampNeg)) := ICv I 26 _
    refine sf_if (fun c6 => ?_) (fun c6 => ?_)
    · have f7 : iv 0 0 (h 26 (a2.toNatClampNeg)) := iv_eql f5 (iv_lit (lo := 0) (hi := 0) (x := 0) rfl) c6 rfl
      refine sf_n (iv_in f_a1 rfl) ?_
      refine sf_n (iv_in f_a2 rfl) ?_
      have s8 := SX3_hasRowPlace_oc2 (z := z) (h 27 (a1.toNatClampNeg)) (h 27 (a2.toNatClampNeg)) h I
      refine sf_n s8.1 ?_
      refine sf_if (fun c9 => ?_) (fun c9 => ?_)
      · have f10 : iv 0 0 (FX3_hasRowPlace_oc2 (h 27 (a1.toNatClampNeg)) (h 27 (a2.toNatClampNeg)) h) := iv_eql s8.2.1 (iv_lit (lo := 0) (hi := 0) (x := 0) rfl) c9 rfl
        exact ⟨trivial, QC_mk (iv_w (c := 0) (d := 4) (iv_lit (lo := 4) (hi := 4) (x := 4) rfl) rfl) I⟩
      · have f11 : iv 0 15 (h 27 (a2.toNatClampNeg)) := iv_and (iv_any _) (s8.2.2 c9).2 rfl
        have f12 : iv 1 1 (FX3_hasRowPlace_oc2 (h 27 (a1.toNatClampNeg)) (h 27 (a2.toNatClampNeg)) h) := iv_nel s8.2.1 c9 rfl
        have f13 : iv 0 220 ((h 27 (a1.toNatClampNeg)) * 20) := iv_mulr (c := 20) rfl f4 rfl
        have f14 : iv 100 320 (100 + ((h 27 (a1.toNatClampNeg)) * 20)) := iv_add (iv_lit (lo := 100) (hi := 100) (x := 100) rfl) f13 rfl
        have f15 : iv 100 335 ((100 + ((h 27 (a1.toNatClampNeg)) * 20)) + (h 27 (a2.toNatClampNeg))) := iv_add f14 f11 rfl
        have I16 : IC z (hs h 25 14 ((100 + ((h 27 (a1.toNatClampNeg)) * 20)) + (h 27 (a2.toNatClampNeg)))) := ICs I (k := 25) (i := 14) (v := ((100 + ((h 27 (a1.toNatClampNeg)) * 20)) + (h 27 (a2.toNatClampNeg)))) (iv_any ((100 + ((h 27 (a1.toNatClampNeg)) * 20)) + (h 27 (a2.toNatClampNeg)))) rfl
        have f17 : iv 0 176 ((h 27 (a1.toNatClampNeg)) * 16) := iv_mulr (c := 16) rfl f4 rfl
        have f18 : iv 0 191 (((h 27 (a1.toNatClampNeg)) * 16) + (h 27 (a2.toNatClampNeg))) := iv_add f17 f11 rfl
        refine sf_n (iv_in f18 rfl) ?_
        have s19 := SX3_hold_oc2 (z := z) a0 0 (h 34 ((((h 27 (a1.toNatClampNeg)) * 16) + (h 27 (a2.toNatClampNeg))).toNatClampNeg)) (hs h 25 14 ((100 + ((h 27 (a1.toNatClampNeg)) * 20)) + (h 27 (a2.toNatClampNeg)))) I16 f_a0 (iv_w (c := 0) (d := 3) (iv_lit (lo := 0) (hi := 0) (x := 0) rfl) rfl) (Or.inl rfl)
        refine sf_n s19.1 ?_
        exact ⟨trivial, QC_mk (iv_w (c := 0) (d := 4) s19.2.1 rfl) s19.2.2⟩
    · have f20 : iv 1 3 (h 26 (a2.toNatClampNeg)) := iv_nel f5 c6 rfl
      have f21 : iv 0 11 (h 27 (a2.toNatClampNeg)) := KVn_o I f20 rfl
      exact ⟨trivial, QC_mk (iv_w (c := 0) (d := 4) (iv_lit (lo := 1) (hi := 1) (x := 1) rfl) rfl) I⟩
  · exact ⟨trivial, QC_mk (iv_w (c := 0) (d := 4) (iv_lit (lo := 1) (hi := 1) (x := 1) rfl) rfl) I⟩

-- X3_bothNumbers_oc2
set_option maxRecDepth 100000 in
set_option maxHeartbeats 4000000 in
theorem SX3_bothNumbers_oc2 {z : zT} (a0 : Int32) (a1 : Int32) (h : ph_H) (I : IC z h) (f_a0 : iv 0 27 a0) (f_a1 : iv 0 27 a1) : PX3_bothNumbers_oc2 a0 a1 h ∧ iv 0 1 (FX3_bothNumbers_oc2 a0 a1 h) := by
  unfold PX3_bothNumbers_oc2 FX3_bothNumbers_oc2
  refine sf_n (iv_in f_a0 rfl) ?_
  have f1 : iv 0 3 (h 26 (a0.toNatClampNeg)) := ICv I 26 _
  refine sf_if (fun c2 => ?_) (fun c2 => ?_)
  · have f3 : iv 0 0 (h 26 (a0.toNatClampNeg)) := iv_eql f1 (iv_lit (lo := 0) (hi := 0) (x := 0) rfl) c2 rfl
    refine sf_n (iv_in f_a1 rfl) ?_
    have f4 : iv 0 3 (h 26 (a1.toNatClampNeg)) := ICv I 26 _
    refine sf_if (fun c5 => ?_) (fun c5 => ?_)
    · have f6 : iv 0 0 (h 26 (a1.toNatClampNeg)) := iv_eql f4 (iv_lit (lo := 0) (hi := 0) (x := 0) rfl) c5 rfl
      exact ⟨trivial, (iv_w (c := 0) (d := 1) (iv_lit (lo := 1) (hi := 1) (x := 1) rfl) rfl)⟩
    · have f7 : iv 1 3 (h 26 (a1.toNatClampNeg)) := iv_nel f4 c5 rfl
      have f8 : iv 0 11 (h 27 (a1.toNatClampNeg)) := KVn_o I f7 rfl
      exact ⟨trivial, (iv_w (c := 0) (d := 1) (iv_lit (lo := 0) (hi := 0) (x := 0) rfl) rfl)⟩
  · have f9 : iv 1 3 (h 26 (a0.toNatClampNeg)) := iv_nel f1 c2 rfl
    have f10 : iv 0 11 (h 27 (a0.toNatClampNeg)) := KVn_o I f9 rfl
    exact ⟨trivial, (iv_w (c := 0) (d := 1) (iv_lit (lo := 0) (hi := 0) (x := 0) rfl) rfl)⟩

-- X3_reckon_oc2
set_option maxRecDepth 100000 in
set_option maxHeartbeats 4000000 in
theorem SX3_reckon_oc2 {z : zT} (a0 : Int32) (a1 : Int32) (a2 : Int32) (h : ph_H) (I : IC z h) (f_a1 : iv 0 27 a1) (f_a2 : iv 0 27 a2) : PX3_reckon_oc2 a0 a1 a2 h ∧ QC z 0 1 (FX3_reckon_oc2 a0 a1 a2 h) := by
  unfold PX3_reckon_oc2 FX3_reckon_oc2
  have s1 := SX3_bothNumbers_oc2 (z := z) a1 a2 h I f_a1 f_a2
  refine sf_n s1.1 ?_
  refine sf_if (fun c2 => ?_) (fun c2 => ?_)
  · have f3 : iv 0 0 (FX3_bothNumbers_oc2 a1 a2 h) := iv_eql s1.2 (iv_lit (lo := 0) (hi := 0) (x := 0) rfl) c2 rfl
    exact ⟨trivial, QC_mk (iv_w (c := 0) (d := 1) (iv_lit (lo := 1) (hi := 1) (x := 1) rfl) rfl) I⟩
  · have f4 : iv 1 1 (FX3_bothNumbers_oc2 a1 a2 h) := iv_nel s1.2 c2 rfl
    refine sf_n (iv_in f_a1 rfl) ?_
    refine sf_n (iv_in f_a2 rfl) ?_
    refine sf_if (fun c5 => ?_) (fun c5 => ?_)
    · have f6 : iv 3 3 a0 := iv_eql (iv_any a0) (iv_lit (lo := 3) (hi := 3) (x := 3) rfl) c5 rfl
      unfold PX3_reckon_oc2_58 FX3_reckon_oc2_58
      have s7 := SX3_hold_oc2 (z := z) a1 0 ((h 27 (a1.toNatClampNeg)) + (h 27 (a2.toNatClampNeg))) h I f_a1 (iv_w (c := 0) (d := 3) (iv_lit (lo := 0) (hi := 0) (x := 0) rfl) rfl) (Or.inl rfl)
      refine sf_n s7.1 ?_
      exact ⟨trivial, QC_mk (iv_w (c := 0) (d := 1) s7.2.1 rfl) s7.2.2⟩
    · refine sf_if (fun c8 => ?_) (fun c8 => ?_)
      · have f9 : iv 4 4 a0 := iv_eql (iv_any a0) (iv_lit (lo := 4) (hi := 4) (x := 4) rfl) c8 rfl
        unfold PX3_reckon_oc2_58 FX3_reckon_oc2_58
        have s10 := SX3_hold_oc2 (z := z) a1 0 ((h 27 (a1.toNatClampNeg)) - (h 27 (a2.toNatClampNeg))) h I f_a1 (iv_w (c := 0) (d := 3) (iv_lit (lo := 0) (hi := 0) (x := 0) rfl) rfl) (Or.inl rfl)
        refine sf_n s10.1 ?_
        exact ⟨trivial, QC_mk (iv_w (c := 0) (d := 1) s10.2.1 rfl) s10.2.2⟩
      · unfold PX3_reckon_oc2_58 FX3_reckon_oc2_58
        have s11 := SX3_hold_oc2 (z := z) a1 0 ((h 27 (a1.toNatClampNeg)) * (h 27 (a2.toNatClampNeg))) h I f_a1 (iv_w (c := 0) (d := 3) (iv_lit (lo := 0) (hi := 0) (x := 0) rfl) rfl) (Or.inl rfl)
        refine sf_n s11.1 ?_
        exact ⟨trivial, QC_mk (iv_w (c := 0) (d := 1) s11.2.1 rfl) s11.2.2⟩

-- X3_startThread_oc2
set_option maxRecDepth 100000 in
set_option maxHeartbeats 4000000 in
theorem SX3_startThread_oc2 {z : zT} (a0 : Int32) (h : ph_H) (I : IC z h) (f_a0 : iv 0 3 a0) : PX3_startThread_oc2 a0 h ∧ QC z 0 5 (FX3_startThread_oc2 a0 h) := by
  unfold PX3_startThread_oc2 FX3_startThread_oc2
  refine sf_n (iv_in f_a0 rfl) ?_
  refine sf_if (fun c1 => ?_) (fun c1 => ?_)
  · have f2 : iv 0 0 (h 29 (a0.toNatClampNeg)) := iv_eql (iv_any (h 29 (a0.toNatClampNeg))) (iv_lit (lo := 0) (hi := 0) (x := 0) rfl) c1 rfl
    refine sf_n (iv_in f_a0 rfl) ?_
    have I3 : IC z (hs h 29 a0.toNatClampNeg 1) := ICs I (k := 29) (i := a0.toNatClampNeg) (v := 1) (iv_any 1) rfl
    have I4 : IC z (hs (hs h 29 a0.toNatClampNeg 1) 25 16 4) := ICs I3 (k := 25) (i := 16) (v := 4) (iv_w (c := 0) (d := 4) (iv_lit (lo := 4) (hi := 4) (x := 4) rfl) rfl) rfl
    have I5 : IC z (hs (hs (hs h 29 a0.toNatClampNeg 1) 25 16 4) 25 17 a0) := ICs I4 (k := 25) (i := 17) (v := a0) (iv_w (c := 0) (d := 11) f_a0 rfl) rfl
    exact ⟨trivial, QC_mk (iv_w (c := 0) (d := 5) (iv_lit (lo := 0) (hi := 0) (x := 0) rfl) rfl) I5⟩
  · exact ⟨trivial, QC_mk (iv_w (c := 0) (d := 5) (iv_lit (lo := 5) (hi := 5) (x := 5) rfl) rfl) I⟩

-- X3_takeInput_oc2
set_option maxRecDepth 100000 in
set_option maxHeartbeats 4000000 in
theorem SX3_takeInput_oc2 {z : zT} (a0 : Int32) (h : ph_H) (I : IC z h) (f_a0 : iv 0 27 a0) : PX3_takeInput_oc2 a0 h ∧ QC z 0 7 (FX3_takeInput_oc2 a0 h) := by
  unfold PX3_takeInput_oc2 FX3_takeInput_oc2
  have f1 : iv 0 30 (h 25 12) := ICv I 25 _
  refine sf_if (fun c2 => ?_) (fun c2 => ?_)
  · have f3 : iv (-2147483648) 30 (h 25 11) := iv_lel (iv_any (h 25 11)) f1 c2 rfl
    exact ⟨trivial, QC_mk (iv_w (c := 0) (d := 7) (iv_lit (lo := 7) (hi := 7) (x := 7) rfl) rfl) I⟩
  · have f4 : iv 1 2147483647 (h 25 11) := iv_ltr (iv_any (h 25 11)) f1 (nle c2) rfl
    refine sf_if (fun c5 => ?_) (fun c5 => ?_)
    · have f6 : iv 0 29 (h 25 12) := iv_ltl f1 (iv_lit (lo := 30) (hi := 30) (x := 30) rfl) c5 rfl
      have f7 : iv 1 30 ((h 25 12) + 1) := iv_add f6 (iv_lit (lo := 1) (hi := 1) (x := 1) rfl) rfl
      have I8 : IC z (hs h 25 12 ((h 25 12) + 1)) := ICs I (k := 25) (i := 12) (v := ((h 25 12) + 1)) (iv_w (c := 0) (d := 30) f7 rfl) rfl
      have f9 : iv 0 29 (((h 25 12) + 1) - 1) := iv_sub f7 (iv_lit (lo := 1) (hi := 1) (x := 1) rfl) rfl
      refine sf_n (iv_in f9 rfl) ?_
      have s10 := SX3_hold_oc2 (z := z) a0 0 (h 12 ((((h 25 12) + 1) - 1).toNatClampNeg)) (hs h 25 12 ((h 25 12) + 1)) I8 f_a0 (iv_w (c := 0) (d := 3) (iv_lit (lo := 0) (hi := 0) (x := 0) rfl) rfl) (Or.inl rfl)
      refine sf_n s10.1 ?_
      exact ⟨trivial, QC_mk (iv_w (c := 0) (d := 7) s10.2.1 rfl) s10.2.2⟩
    · have f11 : iv 30 30 (h 25 12) := iv_ler f1 (iv_lit (lo := 30) (hi := 30) (x := 30) rfl) (nlt c5) rfl
      exact ⟨trivial, QC_mk (iv_w (c := 0) (d := 7) (iv_lit (lo := 7) (hi := 7) (x := 7) rfl) rfl) I⟩

-- X3_own_oc2
set_option maxRecDepth 100000 in
set_option maxHeartbeats 4000000 in
theorem SX3_own_oc2 {z : zT} (a0 : Int32) (a1 : Int32) (h : ph_H) (I : IC z h) (f_a1 : iv 0 11 a1) : PX3_own_oc2 a0 a1 h ∧ QC z 0 0 (FX3_own_oc2 a0 a1 h) := by
  unfold PX3_own_oc2 FX3_own_oc2
  refine sf_n (iv_in f_a1 rfl) ?_
  have I1 : IC z (hs h 33 a1.toNatClampNeg a0) := ICs I (k := 33) (i := a1.toNatClampNeg) (v := a0) (iv_any a0) rfl
  have I2 : IC z (hs (hs h 33 a1.toNatClampNeg a0) 25 16 1) := ICs I1 (k := 25) (i := 16) (v := 1) (iv_w (c := 0) (d := 4) (iv_lit (lo := 1) (hi := 1) (x := 1) rfl) rfl) rfl
  have I3 : IC z (hs (hs (hs h 33 a1.toNatClampNeg a0) 25 16 1) 25 17 a1) := ICs I2 (k := 25) (i := 17) (v := a1) f_a1 rfl
  exact ⟨trivial, QC_mk (iv_lit (lo := 0) (hi := 0) (x := 0) rfl) I3⟩

-- X3_takeLock_oc2
set_option maxRecDepth 100000 in
set_option maxHeartbeats 4000000 in
theorem SX3_takeLock_oc2 {z : zT} (a0 : Int32) (a1 : Int32) (h : ph_H) (I : IC z h) (f_a0 : iv 0 3 a0) (f_a1 : iv 0 27 a1) : PX3_takeLock_oc2 a0 a1 h ∧ QC z 0 5 (FX3_takeLock_oc2 a0 a1 h) := by
  unfold PX3_takeLock_oc2 FX3_takeLock_oc2
  have s1 := SX3_lockIn_oc2 (z := z) a1 h I f_a1
  refine sf_n s1.1 ?_
  refine sf_if (fun c2 => ?_) (fun c2 => ?_)
  · have f3 : iv 0 11 (FX3_lockIn_oc2 a1 h) := iv_ler s1.2 (iv_lit (lo := 0) (hi := 0) (x := 0) rfl) c2 rfl
    refine sf_n (iv_in f3 rfl) ?_
    refine sf_if (fun c4 => ?_) (fun c4 => ?_)
    · have f5 : iv 0 3 (h 33 ((FX3_lockIn_oc2 a1 h).toNatClampNeg)) := iv_eql (iv_any (h 33 ((FX3_lockIn_oc2 a1 h).toNatClampNeg))) f_a0 c4 rfl
      exact ⟨trivial, QC_mk (iv_w (c := 0) (d := 5) (iv_lit (lo := 5) (hi := 5) (x := 5) rfl) rfl) I⟩
    · have s6 := SX3_own_oc2 (z := z) a0 (FX3_lockIn_oc2 a1 h) h I f3
      refine sf_n s6.1 ?_
      exact ⟨trivial, QC_mk (iv_w (c := 0) (d := 5) s6.2.1 rfl) s6.2.2⟩
  · have f7 : iv (-1) (-1) (FX3_lockIn_oc2 a1 h) := iv_ltl s1.2 (iv_lit (lo := 0) (hi := 0) (x := 0) rfl) (nle c2) rfl
    exact ⟨trivial, QC_mk (iv_w (c := 0) (d := 5) (iv_lit (lo := 1) (hi := 1) (x := 1) rfl) rfl) I⟩

-- X3_wakeSleepers_oc2
set_option maxRecDepth 100000 in
set_option maxHeartbeats 4000000 in
theorem SX3_wakeSleepers_oc2_28 {z : zT} : ∀ (q : Nat) (x3 : Int32) (x4 : Int32) (h : ph_H), IC z h → iv 0 11 x3 → iv 0 4 x4 → 4 - (x4).toInt < ((q : Nat) : Int) → PX3_wakeSleepers_oc2_28  q x3 x4 h ∧ QC z 0 6 (FX3_wakeSleepers_oc2_28  q x3 x4 h) := by
  intro q
  induction q with
  | zero =>
    intro x3 x4 h I f_x3 f_x4 mq
    exact mu_zu f_x4 mq rfl
  | succ q ih =>
    intro x3 x4 h I f_x3 f_x4 mq
    unfold PX3_wakeSleepers_oc2_28 FX3_wakeSleepers_oc2_28
    refine sf_if (fun c1 => ?_) (fun c1 => ?_)
    · have f2 : iv 4 4 x4 := iv_ler f_x4 (iv_lit (lo := 4) (hi := 4) (x := 4) rfl) c1 rfl
      have I3 : IC z (hs h 25 16 3) := ICs I (k := 25) (i := 16) (v := 3) (iv_w (c := 0) (d := 4) (iv_lit (lo := 3) (hi := 3) (x := 3) rfl) rfl) rfl
      exact ⟨trivial, QC_mk (iv_w (c := 0) (d := 6) (iv_lit (lo := 0) (hi := 0) (x := 0) rfl) rfl) I3⟩
    · have f4 : iv 0 3 x4 := iv_ltl f_x4 (iv_lit (lo := 4) (hi := 4) (x := 4) rfl) (nle c1) rfl
      refine sf_n (iv_in f4 rfl) ?_
      refine sf_if (fun c5 => ?_) (fun c5 => ?_)
      · have f6 : iv 2 2 (h 29 (x4.toNatClampNeg)) := iv_eql (iv_any (h 29 (x4.toNatClampNeg))) (iv_lit (lo := 2) (hi := 2) (x := 2) rfl) c5 rfl
        refine sf_n (iv_in f4 rfl) ?_
        have f7 : iv 0 11 (h 30 (x4.toNatClampNeg)) := ICv I 30 _
        refine sf_if (fun c8 => ?_) (fun c8 => ?_)
        · refine sf_n (iv_in f4 rfl) ?_
          have I9 : IC z (hs h 29 x4.toNatClampNeg 3) := ICs I (k := 29) (i := x4.toNatClampNeg) (v := 3) (iv_any 3) rfl
          unfold PX3_wakeSleepers_oc2_64 FX3_wakeSleepers_oc2_64
          have f10 : iv 1 4 (x4 + 1) := iv_add f4 (iv_lit (lo := 1) (hi := 1) (x := 1) rfl) rfl
          exact ih x3 (x4 + 1) (hs h 29 x4.toNatClampNeg 3) I9 f_x3 (iv_w (c := 0) (d := 4) f10 rfl) (mu_up f4 mq rfl)
        · unfold PX3_wakeSleepers_oc2_64 FX3_wakeSleepers_oc2_64
          have f11 : iv 1 4 (x4 + 1) := iv_add f4 (iv_lit (lo := 1) (hi := 1) (x := 1) rfl) rfl
          exact ih x3 (x4 + 1) h I f_x3 (iv_w (c := 0) (d := 4) f11 rfl) (mu_up f4 mq rfl)
      · unfold PX3_wakeSleepers_oc2_64 FX3_wakeSleepers_oc2_64
        have f12 : iv 1 4 (x4 + 1) := iv_add f4 (iv_lit (lo := 1) (hi := 1) (x := 1) rfl) rfl
        exact ih x3 (x4 + 1) h I f_x3 (iv_w (c := 0) (d := 4) f12 rfl) (mu_up f4 mq rfl)
set_option maxRecDepth 100000 in
set_option maxHeartbeats 4000000 in
theorem SX3_wakeSleepers_oc2 {z : zT} (a0 : Int32) (a1 : Int32) (h : ph_H) (I : IC z h) (f_a1 : iv 0 27 a1) : PX3_wakeSleepers_oc2 a0 a1 h ∧ QC z 0 6 (FX3_wakeSleepers_oc2 a0 a1 h) := by
  unfold PX3_wakeSleepers_oc2 FX3_wakeSleepers_oc2
  have s1 := SX3_gateIn_oc2 (z := z) a1 h I f_a1
  refine sf_n s1.1 ?_
  refine sf_if (fun c2 => ?_) (fun c2 => ?_)
  · have f3 : iv 0 11 (FX3_gateIn_oc2 a1 h) := iv_ler s1.2 (iv_lit (lo := 0) (hi := 0) (x := 0) rfl) c2 rfl
    refine sf_n (iv_in f3 rfl) ?_
    refine sf_if (fun c4 => ?_) (fun c4 => ?_)
    · exact SX3_wakeSleepers_oc2_28 2000 (FX3_gateIn_oc2 a1 h) 0 h I f3 (iv_w (c := 0) (d := 4) (iv_lit (lo := 0) (hi := 0) (x := 0) rfl) rfl) (mu_0u (iv_lit (lo := 0) (hi := 0) (x := 0) rfl) rfl)
    · exact ⟨trivial, QC_mk (iv_w (c := 0) (d := 6) (iv_lit (lo := 6) (hi := 6) (x := 6) rfl) rfl) I⟩
  · have f5 : iv (-1) (-1) (FX3_gateIn_oc2 a1 h) := iv_ltl s1.2 (iv_lit (lo := 0) (hi := 0) (x := 0) rfl) (nle c2) rfl
    exact ⟨trivial, QC_mk (iv_w (c := 0) (d := 6) (iv_lit (lo := 1) (hi := 1) (x := 1) rfl) rfl) I⟩

-- X3_writeRow_oc2
set_option maxRecDepth 100000 in
set_option maxHeartbeats 4000000 in
theorem SX3_writeRow_oc2 {z : zT} (a0 : Int32) (a1 : Int32) (a2 : Int32) (h : ph_H) (I : IC z h) (f_a0 : iv 0 27 a0) (f_a1 : iv 0 27 a1) (f_a2 : iv 0 27 a2) : PX3_writeRow_oc2 a0 a1 a2 h ∧ QC z 0 4 (FX3_writeRow_oc2 a0 a1 a2 h) := by
  unfold PX3_writeRow_oc2 FX3_writeRow_oc2
  refine sf_n (iv_in f_a0 rfl) ?_
  have f1 : iv 0 3 (h 26 (a0.toNatClampNeg)) := ICv I 26 _
  refine sf_if (fun c2 => ?_) (fun c2 => ?_)
  · have f3 : iv 1 1 (h 26 (a0.toNatClampNeg)) := iv_eql f1 (iv_lit (lo := 1) (hi := 1) (x := 1) rfl) c2 rfl
    have f4 : iv 0 11 (h 27 (a0.toNatClampNeg)) := KVn_o I f3 rfl
    have s5 := SX3_bothNumbers_oc2 (z := z) a1 a2 h I f_a1 f_a2
    refine sf_n s5.1 ?_
    refine sf_if (fun c6 => ?_) (fun c6 => ?_)
    · have f7 : iv 0 0 (FX3_bothNumbers_oc2 a1 a2 h) := iv_eql s5.2 (iv_lit (lo := 0) (hi := 0) (x := 0) rfl) c6 rfl
      exact ⟨trivial, QC_mk (iv_w (c := 0) (d := 4) (iv_lit (lo := 1) (hi := 1) (x := 1) rfl) rfl) I⟩
    · have f8 : iv 1 1 (FX3_bothNumbers_oc2 a1 a2 h) := iv_nel s5.2 c6 rfl
      refine sf_n (iv_in f_a0 rfl) ?_
      refine sf_n (iv_in f_a1 rfl) ?_
      have s9 := SX3_hasRowPlace_oc2 (z := z) (h 27 (a0.toNatClampNeg)) (h 27 (a1.toNatClampNeg)) h I
      refine sf_n s9.1 ?_
      refine sf_if (fun c10 => ?_) (fun c10 => ?_)
      · have f11 : iv 0 0 (FX3_hasRowPlace_oc2 (h 27 (a0.toNatClampNeg)) (h 27 (a1.toNatClampNeg)) h) := iv_eql s9.2.1 (iv_lit (lo := 0) (hi := 0) (x := 0) rfl) c10 rfl
        exact ⟨trivial, QC_mk (iv_w (c := 0) (d := 4) (iv_lit (lo := 4) (hi := 4) (x := 4) rfl) rfl) I⟩
      · have f12 : iv 0 15 (h 27 (a1.toNatClampNeg)) := iv_and (iv_any _) (s9.2.2 c10).2 rfl
        have f13 : iv 1 1 (FX3_hasRowPlace_oc2 (h 27 (a0.toNatClampNeg)) (h 27 (a1.toNatClampNeg)) h) := iv_nel s9.2.1 c10 rfl
        have f14 : iv 0 220 ((h 27 (a0.toNatClampNeg)) * 20) := iv_mulr (c := 20) rfl f4 rfl
        have f15 : iv 100 320 (100 + ((h 27 (a0.toNatClampNeg)) * 20)) := iv_add (iv_lit (lo := 100) (hi := 100) (x := 100) rfl) f14 rfl
        have f16 : iv 100 335 ((100 + ((h 27 (a0.toNatClampNeg)) * 20)) + (h 27 (a1.toNatClampNeg))) := iv_add f15 f12 rfl
        have I17 : IC z (hs h 25 15 ((100 + ((h 27 (a0.toNatClampNeg)) * 20)) + (h 27 (a1.toNatClampNeg)))) := ICs I (k := 25) (i := 15) (v := ((100 + ((h 27 (a0.toNatClampNeg)) * 20)) + (h 27 (a1.toNatClampNeg)))) (iv_any ((100 + ((h 27 (a0.toNatClampNeg)) * 20)) + (h 27 (a1.toNatClampNeg)))) rfl
        have f18 : iv 0 176 ((h 27 (a0.toNatClampNeg)) * 16) := iv_mulr (c := 16) rfl f4 rfl
        have f19 : iv 0 191 (((h 27 (a0.toNatClampNeg)) * 16) + (h 27 (a1.toNatClampNeg))) := iv_add f18 f12 rfl
        refine sf_n (iv_in f_a2 rfl) ?_
        refine sf_n (iv_in f19 rfl) ?_
        have I20 : IC z (hs (hs h 25 15 ((100 + ((h 27 (a0.toNatClampNeg)) * 20)) + (h 27 (a1.toNatClampNeg)))) 34 (((h 27 (a0.toNatClampNeg)) * 16) + (h 27 (a1.toNatClampNeg))).toNatClampNeg (h 27 (a2.toNatClampNeg))) := ICs I17 (k := 34) (i := (((h 27 (a0.toNatClampNeg)) * 16) + (h 27 (a1.toNatClampNeg))).toNatClampNeg) (v := (h 27 (a2.toNatClampNeg))) (iv_any (h 27 (a2.toNatClampNeg))) rfl
        exact ⟨trivial, QC_mk (iv_w (c := 0) (d := 4) (iv_lit (lo := 0) (hi := 0) (x := 0) rfl) rfl) I20⟩
  · exact ⟨trivial, QC_mk (iv_w (c := 0) (d := 4) (iv_lit (lo := 1) (hi := 1) (x := 1) rfl) rfl) I⟩

-- X3_perform_oc2
set_option maxRecDepth 100000 in
set_option maxHeartbeats 4000000 in
theorem SX3_perform_oc2 {z : zT} (a0 : Int32) (h : ph_H) (I : IC z h) (f_a0 : iv 0 3 a0) (e_0 : iv 0 23 (h 28 (a0.toNatClampNeg))) : PX3_perform_oc2 a0 h ∧ QC z 0 19 (FX3_perform_oc2 a0 h) := by
  unfold PX3_perform_oc2 FX3_perform_oc2
  refine sf_n (iv_in f_a0 rfl) ?_
  have s1 := SX5_firstPart_t (z := z) a0 (h 28 (a0.toNatClampNeg)) h I f_a0 e_0
  refine sf_n s1.1 ?_
  have f2 : iv 1 381 ((FX5_firstPart_t a0 (h 28 (a0.toNatClampNeg)) h) + 1) := iv_add s1.2 (iv_lit (lo := 1) (hi := 1) (x := 1) rfl) rfl
  refine sf_n (iv_in f2 rfl) ?_
  have f3 : iv 2 382 ((FX5_firstPart_t a0 (h 28 (a0.toNatClampNeg)) h) + 2) := iv_add s1.2 (iv_lit (lo := 2) (hi := 2) (x := 2) rfl) rfl
  refine sf_n (iv_in f3 rfl) ?_
  have s4 := SX3_slotOf a0 (h 10 (((FX5_firstPart_t a0 (h 28 (a0.toNatClampNeg)) h) + 1).toNatClampNeg)) f_a0
  refine sf_n s4.1 ?_
  have s5 := SX3_slotOf a0 (h 10 (((FX5_firstPart_t a0 (h 28 (a0.toNatClampNeg)) h) + 2).toNatClampNeg)) f_a0
  refine sf_n s5.1 ?_
  have f6 : iv 3 383 ((FX5_firstPart_t a0 (h 28 (a0.toNatClampNeg)) h) + 3) := iv_add s1.2 (iv_lit (lo := 3) (hi := 3) (x := 3) rfl) rfl
  refine sf_n (iv_in f6 rfl) ?_
  have s7 := SX3_slotOf a0 (h 10 (((FX5_firstPart_t a0 (h 28 (a0.toNatClampNeg)) h) + 3).toNatClampNeg)) f_a0
  refine sf_n s7.1 ?_
  refine sf_n (iv_in s1.2 rfl) ?_
  refine sf_if (fun c8 => ?_) (fun c8 => ?_)
  · have f9 : iv 0 0 (h 10 ((FX5_firstPart_t a0 (h 28 (a0.toNatClampNeg)) h).toNatClampNeg)) := iv_eql (iv_any (h 10 ((FX5_firstPart_t a0 (h 28 (a0.toNatClampNeg)) h).toNatClampNeg))) (iv_lit (lo := 0) (hi := 0) (x := 0) rfl) c8 rfl
    have s10 := SX3_hold_oc2 (z := z) (FX3_slotOf a0 (h 10 (((FX5_firstPart_t a0 (h 28 (a0.toNatClampNeg)) h) + 1).toNatClampNeg))) 0 (h 10 (((FX5_firstPart_t a0 (h 28 (a0.toNatClampNeg)) h) + 2).toNatClampNeg)) h I (iv_w (c := 0) (d := 27) s4.2 rfl) (iv_w (c := 0) (d := 3) (iv_lit (lo := 0) (hi := 0) (x := 0) rfl) rfl) (Or.inl rfl)
    refine sf_n s10.1 ?_
    exact ⟨trivial, QC_mk (iv_w (c := 0) (d := 19) s10.2.1 rfl) s10.2.2⟩
  refine sf_if (fun c11 => ?_) (fun c11 => ?_)
  · have f12 : iv 1 1 (h 10 ((FX5_firstPart_t a0 (h 28 (a0.toNatClampNeg)) h).toNatClampNeg)) := iv_eql (iv_any (h 10 ((FX5_firstPart_t a0 (h 28 (a0.toNatClampNeg)) h).toNatClampNeg))) (iv_lit (lo := 1) (hi := 1) (x := 1) rfl) c11 rfl
    refine sf_n (fmod_p (m := 12) (by decide) (by decide)) ?_
    have f13 : iv 0 11 (FJ9_floorMod_7cf53 (h 10 (((FX5_firstPart_t a0 (h 28 (a0.toNatClampNeg)) h) + 2).toNatClampNeg)) 12) := fmod_iv (m := 12) rfl
    have s14 := SX3_getCell_oc2 (z := z) (FX3_slotOf a0 (h 10 (((FX5_firstPart_t a0 (h 28 (a0.toNatClampNeg)) h) + 1).toNatClampNeg))) (FJ9_floorMod_7cf53 (h 10 (((FX5_firstPart_t a0 (h 28 (a0.toNatClampNeg)) h) + 2).toNatClampNeg)) 12) h I (iv_w (c := 0) (d := 27) s4.2 rfl) f13
    refine sf_n s14.1 ?_
    exact ⟨trivial, QC_mk (iv_w (c := 0) (d := 19) s14.2.1 rfl) s14.2.2⟩
  refine sf_if (fun c15 => ?_) (fun c15 => ?_)
  · have f16 : iv 2 2 (h 10 ((FX5_firstPart_t a0 (h 28 (a0.toNatClampNeg)) h).toNatClampNeg)) := iv_eql (iv_any (h 10 ((FX5_firstPart_t a0 (h 28 (a0.toNatClampNeg)) h).toNatClampNeg))) (iv_lit (lo := 2) (hi := 2) (x := 2) rfl) c15 rfl
    refine sf_n (fmod_p (m := 12) (by decide) (by decide)) ?_
    have f17 : iv 0 11 (FJ9_floorMod_7cf53 (h 10 (((FX5_firstPart_t a0 (h 28 (a0.toNatClampNeg)) h) + 1).toNatClampNeg)) 12) := fmod_iv (m := 12) rfl
    have s18 := SX3_putCell_oc2 (z := z) (FJ9_floorMod_7cf53 (h 10 (((FX5_firstPart_t a0 (h 28 (a0.toNatClampNeg)) h) + 1).toNatClampNeg)) 12) (FX3_slotOf a0 (h 10 (((FX5_firstPart_t a0 (h 28 (a0.toNatClampNeg)) h) + 2).toNatClampNeg))) h I f17 (iv_w (c := 0) (d := 27) s5.2 rfl)
    refine sf_n s18.1 ?_
    exact ⟨trivial, QC_mk (iv_w (c := 0) (d := 19) s18.2.1 rfl) s18.2.2⟩
  refine sf_if (fun c19 => ?_) (fun c19 => ?_)
  · have f20 : iv 3 3 (h 10 ((FX5_firstPart_t a0 (h 28 (a0.toNatClampNeg)) h).toNatClampNeg)) := iv_eql (iv_any (h 10 ((FX5_firstPart_t a0 (h 28 (a0.toNatClampNeg)) h).toNatClampNeg))) (iv_lit (lo := 3) (hi := 3) (x := 3) rfl) c19 rfl
    refine sf_n (iv_in s1.2 rfl) ?_
    have s21 := SX3_reckon_oc2 (z := z) (h 10 ((FX5_firstPart_t a0 (h 28 (a0.toNatClampNeg)) h).toNatClampNeg)) (FX3_slotOf a0 (h 10 (((FX5_firstPart_t a0 (h 28 (a0.toNatClampNeg)) h) + 1).toNatClampNeg))) (FX3_slotOf a0 (h 10 (((FX5_firstPart_t a0 (h 28 (a0.toNatClampNeg)) h) + 2).toNatClampNeg))) h I (iv_w (c := 0) (d := 27) s4.2 rfl) (iv_w (c := 0) (d := 27) s5.2 rfl)
    refine sf_n s21.1 ?_
    exact ⟨trivial, QC_mk (iv_w (c := 0) (d := 19) s21.2.1 rfl) s21.2.2⟩
  refine sf_if (fun c22 => ?_) (fun c22 => ?_)
  · have f23 : iv 4 4 (h 10 ((FX5_firstPart_t a0 (h 28 (a0.toNatClampNeg)) h).toNatClampNeg)) := iv_eql (iv_any (h 10 ((FX5_firstPart_t a0 (h 28 (a0.toNatClampNeg)) h).toNatClampNeg))) (iv_lit (lo := 4) (hi := 4) (x := 4) rfl) c22 rfl
    refine sf_n (iv_in s1.2 rfl) ?_
    have s24 := SX3_reckon_oc2 (z := z) (h 10 ((FX5_firstPart_t a0 (h 28 (a0.toNatClampNeg)) h).toNatClampNeg)) (FX3_slotOf a0 (h 10 (((FX5_firstPart_t a0 (h 28 (a0.toNatClampNeg)) h) + 1).toNatClampNeg))) (FX3_slotOf a0 (h 10 (((FX5_firstPart_t a0 (h 28 (a0.toNatClampNeg)) h) + 2).toNatClampNeg))) h I (iv_w (c := 0) (d := 27) s4.2 rfl) (iv_w (c := 0) (d := 27) s5.2 rfl)
    refine sf_n s24.1 ?_
    exact ⟨trivial, QC_mk (iv_w (c := 0) (d := 19) s24.2.1 rfl) s24.2.2⟩
  refine sf_if (fun c25 => ?_) (fun c25 => ?_)
  · have f26 : iv 5 5 (h 10 ((FX5_firstPart_t a0 (h 28 (a0.toNatClampNeg)) h).toNatClampNeg)) := iv_eql (iv_any (h 10 ((FX5_firstPart_t a0 (h 28 (a0.toNatClampNeg)) h).toNatClampNeg))) (iv_lit (lo := 5) (hi := 5) (x := 5) rfl) c25 rfl
    refine sf_n (iv_in s1.2 rfl) ?_
    have s27 := SX3_reckon_oc2 (z := z) (h 10 ((FX5_firstPart_t a0 (h 28 (a0.toNatClampNeg)) h).toNatClampNeg)) (FX3_slotOf a0 (h 10 (((FX5_firstPart_t a0 (h 28 (a0.toNatClampNeg)) h) + 1).toNatClampNeg))) (FX3_slotOf a0 (h 10 (((FX5_firstPart_t a0 (h 28 (a0.toNatClampNeg)) h) + 2).toNatClampNeg))) h I (iv_w (c := 0) (d := 27) s4.2 rfl) (iv_w (c := 0) (d := 27) s5.2 rfl)
    refine sf_n s27.1 ?_
    exact ⟨trivial, QC_mk (iv_w (c := 0) (d := 19) s27.2.1 rfl) s27.2.2⟩
  refine sf_if (fun c28 => ?_) (fun c28 => ?_)
  · have f29 : iv 6 6 (h 10 ((FX5_firstPart_t a0 (h 28 (a0.toNatClampNeg)) h).toNatClampNeg)) := iv_eql (iv_any (h 10 ((FX5_firstPart_t a0 (h 28 (a0.toNatClampNeg)) h).toNatClampNeg))) (iv_lit (lo := 6) (hi := 6) (x := 6) rfl) c28 rfl
    have s30 := SX3_goTo_oc2 (z := z) (h 10 (((FX5_firstPart_t a0 (h 28 (a0.toNatClampNeg)) h) + 1).toNatClampNeg)) h I
    refine sf_n s30.1 ?_
    exact ⟨trivial, QC_mk (iv_w (c := 0) (d := 19) s30.2.1 rfl) s30.2.2⟩
  refine sf_if (fun c31 => ?_) (fun c31 => ?_)
  · have f32 : iv 7 7 (h 10 ((FX5_firstPart_t a0 (h 28 (a0.toNatClampNeg)) h).toNatClampNeg)) := iv_eql (iv_any (h 10 ((FX5_firstPart_t a0 (h 28 (a0.toNatClampNeg)) h).toNatClampNeg))) (iv_lit (lo := 7) (hi := 7) (x := 7) rfl) c31 rfl
    have s33 := SX3_goUnless_oc2 (z := z) (FX3_slotOf a0 (h 10 (((FX5_firstPart_t a0 (h 28 (a0.toNatClampNeg)) h) + 1).toNatClampNeg))) (h 10 (((FX5_firstPart_t a0 (h 28 (a0.toNatClampNeg)) h) + 2).toNatClampNeg)) h I (iv_w (c := 0) (d := 27) s4.2 rfl)
    refine sf_n s33.1 ?_
    exact ⟨trivial, QC_mk (iv_w (c := 0) (d := 19) s33.2.1 rfl) s33.2.2⟩
  refine sf_if (fun c34 => ?_) (fun c34 => ?_)
  · have f35 : iv 8 8 (h 10 ((FX5_firstPart_t a0 (h 28 (a0.toNatClampNeg)) h).toNatClampNeg)) := iv_eql (iv_any (h 10 ((FX5_firstPart_t a0 (h 28 (a0.toNatClampNeg)) h).toNatClampNeg))) (iv_lit (lo := 8) (hi := 8) (x := 8) rfl) c34 rfl
    have s36 := SX3_makeRow_oc2 (z := z) (FX3_slotOf a0 (h 10 (((FX5_firstPart_t a0 (h 28 (a0.toNatClampNeg)) h) + 1).toNatClampNeg))) (FX3_slotOf a0 (h 10 (((FX5_firstPart_t a0 (h 28 (a0.toNatClampNeg)) h) + 2).toNatClampNeg))) h I (iv_w (c := 0) (d := 27) s4.2 rfl) (iv_w (c := 0) (d := 27) s5.2 rfl)
    refine sf_n s36.1 ?_
    exact ⟨trivial, QC_mk (iv_w (c := 0) (d := 19) s36.2.1 rfl) s36.2.2⟩
  refine sf_if (fun c37 => ?_) (fun c37 => ?_)
  · have f38 : iv 9 9 (h 10 ((FX5_firstPart_t a0 (h 28 (a0.toNatClampNeg)) h).toNatClampNeg)) := iv_eql (iv_any (h 10 ((FX5_firstPart_t a0 (h 28 (a0.toNatClampNeg)) h).toNatClampNeg))) (iv_lit (lo := 9) (hi := 9) (x := 9) rfl) c37 rfl
    have s39 := SX3_readRow_oc2 (z := z) (FX3_slotOf a0 (h 10 (((FX5_firstPart_t a0 (h 28 (a0.toNatClampNeg)) h) + 1).toNatClampNeg))) (FX3_slotOf a0 (h 10 (((FX5_firstPart_t a0 (h 28 (a0.toNatClampNeg)) h) + 2).toNatClampNeg))) (FX3_slotOf a0 (h 10 (((FX5_firstPart_t a0 (h 28 (a0.toNatClampNeg)) h) + 3).toNatClampNeg))) h I (iv_w (c := 0) (d := 27) s4.2 rfl) (iv_w (c := 0) (d := 27) s5.2 rfl) (iv_w (c := 0) (d := 27) s7.2 rfl)
    refine sf_n s39.1 ?_
    exact ⟨trivial, QC_mk (iv_w (c := 0) (d := 19) s39.2.1 rfl) s39.2.2⟩
  refine sf_if (fun c40 => ?_) (fun c40 => ?_)
  · have f41 : iv 10 10 (h 10 ((FX5_firstPart_t a0 (h 28 (a0.toNatClampNeg)) h).toNatClampNeg)) := iv_eql (iv_any (h 10 ((FX5_firstPart_t a0 (h 28 (a0.toNatClampNeg)) h).toNatClampNeg))) (iv_lit (lo := 10) (hi := 10) (x := 10) rfl) c40 rfl
    have s42 := SX3_writeRow_oc2 (z := z) (FX3_slotOf a0 (h 10 (((FX5_firstPart_t a0 (h 28 (a0.toNatClampNeg)) h) + 1).toNatClampNeg))) (FX3_slotOf a0 (h 10 (((FX5_firstPart_t a0 (h 28 (a0.toNatClampNeg)) h) + 2).toNatClampNeg))) (FX3_slotOf a0 (h 10 (((FX5_firstPart_t a0 (h 28 (a0.toNatClampNeg)) h) + 3).toNatClampNeg))) h I (iv_w (c := 0) (d := 27) s4.2 rfl) (iv_w (c := 0) (d := 27) s5.2 rfl) (iv_w (c := 0) (d := 27) s7.2 rfl)
    refine sf_n s42.1 ?_
    exact ⟨trivial, QC_mk (iv_w (c := 0) (d := 19) s42.2.1 rfl) s42.2.2⟩
  refine sf_if (fun c43 => ?_) (fun c43 => ?_)
  · have f44 : iv 11 11 (h 10 ((FX5_firstPart_t a0 (h 28 (a0.toNatClampNeg)) h).toNatClampNeg)) := iv_eql (iv_any (h 10 ((FX5_firstPart_t a0 (h 28 (a0.toNatClampNeg)) h).toNatClampNeg))) (iv_lit (lo := 11) (hi := 11) (x := 11) rfl) c43 rfl
    refine sf_if (fun c45 => ?_) (fun c45 => ?_)
    · have f46 : iv 0 0 ((h 10 (((FX5_firstPart_t a0 (h 28 (a0.toNatClampNeg)) h) + 2).toNatClampNeg)) &&& 1) := iv_eql (iv_any ((h 10 (((FX5_firstPart_t a0 (h 28 (a0.toNatClampNeg)) h) + 2).toNatClampNeg)) &&& 1)) (iv_lit (lo := 0) (hi := 0) (x := 0) rfl) c45 rfl
      unfold PX3_perform_oc2_288 FX3_perform_oc2_288
      have s47 := SX3_makeLock_oc2 (z := z) (FX3_slotOf a0 (h 10 (((FX5_firstPart_t a0 (h 28 (a0.toNatClampNeg)) h) + 1).toNatClampNeg))) 0 h I (iv_w (c := 0) (d := 27) s4.2 rfl) (iv_w (c := 0) (d := 1) (iv_lit (lo := 0) (hi := 0) (x := 0) rfl) rfl)
      refine sf_n s47.1 ?_
      exact ⟨trivial, QC_mk (iv_w (c := 0) (d := 19) s47.2.1 rfl) s47.2.2⟩
    · unfold PX3_perform_oc2_288 FX3_perform_oc2_288
      have s48 := SX3_makeLock_oc2 (z := z) (FX3_slotOf a0 (h 10 (((FX5_firstPart_t a0 (h 28 (a0.toNatClampNeg)) h) + 1).toNatClampNeg))) 1 h I (iv_w (c := 0) (d := 27) s4.2 rfl) (iv_w (c := 0) (d := 1) (iv_lit (lo := 1) (hi := 1) (x := 1) rfl) rfl)
      refine sf_n s48.1 ?_
      exact ⟨trivial, QC_mk (iv_w (c := 0) (d := 19) s48.2.1 rfl) s48.2.2⟩
  refine sf_if (fun c49 => ?_) (fun c49 => ?_)
  · have f50 : iv 12 12 (h 10 ((FX5_firstPart_t a0 (h 28 (a0.toNatClampNeg)) h).toNatClampNeg)) := iv_eql (iv_any (h 10 ((FX5_firstPart_t a0 (h 28 (a0.toNatClampNeg)) h).toNatClampNeg))) (iv_lit (lo := 12) (hi := 12) (x := 12) rfl) c49 rfl
    have s51 := SX3_takeLock_oc2 (z := z) a0 (FX3_slotOf a0 (h 10 (((FX5_firstPart_t a0 (h 28 (a0.toNatClampNeg)) h) + 1).toNatClampNeg))) h I f_a0 (iv_w (c := 0) (d := 27) s4.2 rfl)
    refine sf_n s51.1 ?_
    exact ⟨trivial, QC_mk (iv_w (c := 0) (d := 19) s51.2.1 rfl) s51.2.2⟩
  refine sf_if (fun c52 => ?_) (fun c52 => ?_)
  · have f53 : iv 13 13 (h 10 ((FX5_firstPart_t a0 (h 28 (a0.toNatClampNeg)) h).toNatClampNeg)) := iv_eql (iv_any (h 10 ((FX5_firstPart_t a0 (h 28 (a0.toNatClampNeg)) h).toNatClampNeg))) (iv_lit (lo := 13) (hi := 13) (x := 13) rfl) c52 rfl
    have s54 := SX3_leaveLock_oc2 (z := z) a0 (FX3_slotOf a0 (h 10 (((FX5_firstPart_t a0 (h 28 (a0.toNatClampNeg)) h) + 1).toNatClampNeg))) h I (iv_w (c := 0) (d := 27) s4.2 rfl)
    refine sf_n s54.1 ?_
    exact ⟨trivial, QC_mk (iv_w (c := 0) (d := 19) s54.2.1 rfl) s54.2.2⟩
  refine sf_if (fun c55 => ?_) (fun c55 => ?_)
  · have f56 : iv 14 14 (h 10 ((FX5_firstPart_t a0 (h 28 (a0.toNatClampNeg)) h).toNatClampNeg)) := iv_eql (iv_any (h 10 ((FX5_firstPart_t a0 (h 28 (a0.toNatClampNeg)) h).toNatClampNeg))) (iv_lit (lo := 14) (hi := 14) (x := 14) rfl) c55 rfl
    have s57 := SX3_lieDown_oc2 (z := z) a0 (FX3_slotOf a0 (h 10 (((FX5_firstPart_t a0 (h 28 (a0.toNatClampNeg)) h) + 1).toNatClampNeg))) h I f_a0 (iv_w (c := 0) (d := 27) s4.2 rfl)
    refine sf_n s57.1 ?_
    exact ⟨trivial, QC_mk (iv_w (c := 0) (d := 19) s57.2.1 rfl) s57.2.2⟩
  refine sf_if (fun c58 => ?_) (fun c58 => ?_)
  · have f59 : iv 15 15 (h 10 ((FX5_firstPart_t a0 (h 28 (a0.toNatClampNeg)) h).toNatClampNeg)) := iv_eql (iv_any (h 10 ((FX5_firstPart_t a0 (h 28 (a0.toNatClampNeg)) h).toNatClampNeg))) (iv_lit (lo := 15) (hi := 15) (x := 15) rfl) c58 rfl
    have s60 := SX3_wakeSleepers_oc2 (z := z) a0 (FX3_slotOf a0 (h 10 (((FX5_firstPart_t a0 (h 28 (a0.toNatClampNeg)) h) + 1).toNatClampNeg))) h I (iv_w (c := 0) (d := 27) s4.2 rfl)
    refine sf_n s60.1 ?_
    exact ⟨trivial, QC_mk (iv_w (c := 0) (d := 19) s60.2.1 rfl) s60.2.2⟩
  refine sf_if (fun c61 => ?_) (fun c61 => ?_)
  · have f62 : iv 16 16 (h 10 ((FX5_firstPart_t a0 (h 28 (a0.toNatClampNeg)) h).toNatClampNeg)) := iv_eql (iv_any (h 10 ((FX5_firstPart_t a0 (h 28 (a0.toNatClampNeg)) h).toNatClampNeg))) (iv_lit (lo := 16) (hi := 16) (x := 16) rfl) c61 rfl
    have s63 := SX3_takeInput_oc2 (z := z) (FX3_slotOf a0 (h 10 (((FX5_firstPart_t a0 (h 28 (a0.toNatClampNeg)) h) + 1).toNatClampNeg))) h I (iv_w (c := 0) (d := 27) s4.2 rfl)
    refine sf_n s63.1 ?_
    exact ⟨trivial, QC_mk (iv_w (c := 0) (d := 19) s63.2.1 rfl) s63.2.2⟩
  refine sf_if (fun c64 => ?_) (fun c64 => ?_)
  · have f65 : iv 17 17 (h 10 ((FX5_firstPart_t a0 (h 28 (a0.toNatClampNeg)) h).toNatClampNeg)) := iv_eql (iv_any (h 10 ((FX5_firstPart_t a0 (h 28 (a0.toNatClampNeg)) h).toNatClampNeg))) (iv_lit (lo := 17) (hi := 17) (x := 17) rfl) c64 rfl
    refine sf_n (fmod_p (m := 4) (by decide) (by decide)) ?_
    have f66 : iv 0 3 (FJ9_floorMod_7cf53 (h 10 (((FX5_firstPart_t a0 (h 28 (a0.toNatClampNeg)) h) + 1).toNatClampNeg)) 4) := fmod_iv (m := 4) rfl
    have s67 := SX3_startThread_oc2 (z := z) (FJ9_floorMod_7cf53 (h 10 (((FX5_firstPart_t a0 (h 28 (a0.toNatClampNeg)) h) + 1).toNatClampNeg)) 4) h I f66
    refine sf_n s67.1 ?_
    exact ⟨trivial, QC_mk (iv_w (c := 0) (d := 19) s67.2.1 rfl) s67.2.2⟩
  refine sf_if (fun c68 => ?_) (fun c68 => ?_)
  · have f69 : iv 18 18 (h 10 ((FX5_firstPart_t a0 (h 28 (a0.toNatClampNeg)) h).toNatClampNeg)) := iv_eql (iv_any (h 10 ((FX5_firstPart_t a0 (h 28 (a0.toNatClampNeg)) h).toNatClampNeg))) (iv_lit (lo := 18) (hi := 18) (x := 18) rfl) c68 rfl
    refine sf_n (fmod_p (m := 10) (by decide) (by decide)) ?_
    have f70 : iv 0 9 (FJ9_floorMod_7cf53 (h 10 (((FX5_firstPart_t a0 (h 28 (a0.toNatClampNeg)) h) + 2).toNatClampNeg)) 10) := fmod_iv (m := 10) rfl
    have f71 : iv 10 19 (10 + (FJ9_floorMod_7cf53 (h 10 (((FX5_firstPart_t a0 (h 28 (a0.toNatClampNeg)) h) + 2).toNatClampNeg)) 10)) := iv_add (iv_lit (lo := 10) (hi := 10) (x := 10) rfl) f70 rfl
    exact ⟨trivial, QC_mk (iv_w (c := 0) (d := 19) f71 rfl) I⟩
  have s72 := SX3_goTo_oc2 (z := z) 24 h I
  refine sf_n s72.1 ?_
  exact ⟨trivial, QC_mk (iv_w (c := 0) (d := 19) s72.2.1 rfl) s72.2.2⟩

-- X3_rise_oc2
set_option maxRecDepth 100000 in
set_option maxHeartbeats 4000000 in
theorem SX3_rise_oc2 {z : zT} (a0 : Int32) (h : ph_H) (I : IC z h) (f_a0 : iv 0 3 a0) : PX3_rise_oc2 a0 h ∧ QC z 0 0 (FX3_rise_oc2 a0 h) := by
  unfold PX3_rise_oc2 FX3_rise_oc2
  refine sf_n (iv_in f_a0 rfl) ?_
  have I1 : IC z (hs h 29 a0.toNatClampNeg 1) := ICs I (k := 29) (i := a0.toNatClampNeg) (v := 1) (iv_any 1) rfl
  refine sf_n (iv_in f_a0 rfl) ?_
  have f2 : iv 0 11 (h 30 (a0.toNatClampNeg)) := ICv I 30 _
  have s3 := SX3_own_oc2 (z := z) a0 (h 30 (a0.toNatClampNeg)) (hs h 29 a0.toNatClampNeg 1) I1 f2
  refine sf_n s3.1 ?_
  exact ⟨trivial, QC_mk s3.2.1 s3.2.2⟩

-- X3_nextInstruction_oc2
set_option maxRecDepth 100000 in
set_option maxHeartbeats 4000000 in
theorem SX3_nextInstruction_oc2 {z : zT} (a0 : Int32) (h : ph_H) (I : IC z h) (f_a0 : iv 0 3 a0) : PX3_nextInstruction_oc2 a0 h ∧ iv 0 24 (FX3_nextInstruction_oc2 a0 h) := by
  unfold PX3_nextInstruction_oc2 FX3_nextInstruction_oc2
  have s1 := SX3_hasEnded_oc2 (z := z) a0 h I f_a0
  refine sf_n s1.1 ?_
  refine sf_if (fun c2 => ?_) (fun c2 => ?_)
  · have f3 : iv 0 23 (h 28 (a0.toNatClampNeg)) := iv_and (iv_any _) (s1.2.2 c2) rfl
    have f4 : iv 0 0 (FX3_hasEnded_oc2 a0 h) := iv_eql s1.2.1 (iv_lit (lo := 0) (hi := 0) (x := 0) rfl) c2 rfl
    refine sf_n (iv_in f_a0 rfl) ?_
    exact ⟨trivial, (iv_w (c := 0) (d := 24) f3 rfl)⟩
  · have f5 : iv 1 1 (FX3_hasEnded_oc2 a0 h) := iv_nel s1.2.1 c2 rfl
    exact ⟨trivial, (iv_w (c := 0) (d := 24) (iv_lit (lo := 24) (hi := 24) (x := 24) rfl) rfl)⟩

-- X3_differences_soc2
set_option maxRecDepth 100000 in
set_option maxHeartbeats 4000000 in
theorem SX3_differences_soc2_51 {z : zT} : ∀ (q : Nat) (x2 : Int32) (x3 : Int32) (h : ph_H), IC z h → iv 0 4 x3 → 4 - (x3).toInt < ((q : Nat) : Int) → PX3_differences_soc2_51  q x2 x3 h ∧ iv (-2147483648) 2147483647 (FX3_differences_soc2_51  q x2 x3 h) := by
  intro q
  induction q with
  | zero =>
    intro x2 x3 h I f_x3 mq
    exact mu_zu f_x3 mq rfl
  | succ q ih =>
    intro x2 x3 h I f_x3 mq
    unfold PX3_differences_soc2_51 FX3_differences_soc2_51
    refine sf_if (fun c1 => ?_) (fun c1 => ?_)
    · have f2 : iv 4 4 x3 := iv_ler f_x3 (iv_lit (lo := 4) (hi := 4) (x := 4) rfl) c1 rfl
      exact ⟨trivial, (iv_any x2)⟩
    · have f3 : iv 0 3 x3 := iv_ltl f_x3 (iv_lit (lo := 4) (hi := 4) (x := 4) rfl) (nle c1) rfl
      have s4 := SX3_nextInstruction_s (z := z) x3 h I f3
      refine sf_n s4.1 ?_
      have s5 := SX3_nextInstruction_oc2 (z := z) x3 h I f3
      refine sf_n s5.1 ?_
      refine sf_if (fun c6 => ?_) (fun c6 => ?_)
      · unfold PX3_differences_soc2_72 FX3_differences_soc2_72
        have f7 : iv 1 4 (x3 + 1) := iv_add f3 (iv_lit (lo := 1) (hi := 1) (x := 1) rfl) rfl
        exact ih x2 (x3 + 1) h I (iv_w (c := 0) (d := 4) f7 rfl) (mu_up f3 mq rfl)
      · unfold PX3_differences_soc2_72 FX3_differences_soc2_72
        have f8 : iv 1 4 (x3 + 1) := iv_add f3 (iv_lit (lo := 1) (hi := 1) (x := 1) rfl) rfl
        exact ih (x2 + 1) (x3 + 1) h I (iv_w (c := 0) (d := 4) f8 rfl) (mu_up f3 mq rfl)
set_option maxRecDepth 100000 in
set_option maxHeartbeats 4000000 in
theorem SX3_differences_soc2_4 {z : zT} : ∀ (q : Nat) (x2 : Int32) (x3 : Int32) (h : ph_H), IC z h → iv 0 28 x3 → 28 - (x3).toInt < ((q : Nat) : Int) → PX3_differences_soc2_4  q x2 x3 h ∧ iv (-2147483648) 2147483647 (FX3_differences_soc2_4  q x2 x3 h) := by
  intro q
  induction q with
  | zero =>
    intro x2 x3 h I f_x3 mq
    exact mu_zu f_x3 mq rfl
  | succ q ih =>
    intro x2 x3 h I f_x3 mq
    unfold PX3_differences_soc2_4 FX3_differences_soc2_4
    refine sf_if (fun c1 => ?_) (fun c1 => ?_)
    · have f2 : iv 28 28 x3 := iv_ler f_x3 (iv_lit (lo := 28) (hi := 28) (x := 28) rfl) c1 rfl
      exact SX3_differences_soc2_51 2000 x2 0 h I (iv_w (c := 0) (d := 4) (iv_lit (lo := 0) (hi := 0) (x := 0) rfl) rfl) (mu_0u (iv_lit (lo := 0) (hi := 0) (x := 0) rfl) rfl)
    · have f3 : iv 0 27 x3 := iv_ltl f_x3 (iv_lit (lo := 28) (hi := 28) (x := 28) rfl) (nle c1) rfl
      refine sf_n (iv_in f3 rfl) ?_
      have f4 : iv 0 3 (h 16 (x3.toNatClampNeg)) := ICv I 16 _
      refine sf_n (iv_in f3 rfl) ?_
      have f5 : iv 0 3 (h 26 (x3.toNatClampNeg)) := ICv I 26 _
      refine sf_if (fun c6 => ?_) (fun c6 => ?_)
      · refine sf_n (iv_in f3 rfl) ?_
        refine sf_n (iv_in f3 rfl) ?_
        refine sf_if (fun c7 => ?_) (fun c7 => ?_)
        · unfold PX3_differences_soc2_43 FX3_differences_soc2_43
          have f8 : iv 1 28 (x3 + 1) := iv_add f3 (iv_lit (lo := 1) (hi := 1) (x := 1) rfl) rfl
          exact ih x2 (x3 + 1) h I (iv_w (c := 0) (d := 28) f8 rfl) (mu_up f3 mq rfl)
        · unfold PX3_differences_soc2_40 FX3_differences_soc2_40
          unfold PX3_differences_soc2_43 FX3_differences_soc2_43
          have f9 : iv 1 28 (x3 + 1) := iv_add f3 (iv_lit (lo := 1) (hi := 1) (x := 1) rfl) rfl
          exact ih (x2 + 1) (x3 + 1) h I (iv_w (c := 0) (d := 28) f9 rfl) (mu_up f3 mq rfl)
      · unfold PX3_differences_soc2_40 FX3_differences_soc2_40
        unfold PX3_differences_soc2_43 FX3_differences_soc2_43
        have f10 : iv 1 28 (x3 + 1) := iv_add f3 (iv_lit (lo := 1) (hi := 1) (x := 1) rfl) rfl
        exact ih (x2 + 1) (x3 + 1) h I (iv_w (c := 0) (d := 28) f10 rfl) (mu_up f3 mq rfl)
set_option maxRecDepth 100000 in
set_option maxHeartbeats 4000000 in
theorem SX3_differences_soc2 {z : zT} (h : ph_H) (I : IC z h) : PX3_differences_soc2 h ∧ iv (-2147483648) 2147483647 (FX3_differences_soc2 h) := by
  unfold PX3_differences_soc2 FX3_differences_soc2
  exact SX3_differences_soc2_4 2000 0 0 h I (iv_w (c := 0) (d := 28) (iv_lit (lo := 0) (hi := 0) (x := 0) rfl) rfl) (mu_0u (iv_lit (lo := 0) (hi := 0) (x := 0) rfl) rfl)

-- X3_rivalsOf_oc1
set_option maxRecDepth 100000 in
set_option maxHeartbeats 4000000 in
theorem SX3_rivalsOf_oc1_4 {z : zT} : ∀ (q : Nat) (x1 : Int32) (x2 : Int32) (x3 : Int32) (h : ph_H), IC z h → iv 0 4 x3 → 4 - (x3).toInt < ((q : Nat) : Int) → PX3_rivalsOf_oc1_4  q x1 x2 x3 h ∧ iv (-2147483648) 2147483647 (FX3_rivalsOf_oc1_4  q x1 x2 x3 h) := by
  intro q
  induction q with
  | zero =>
    intro x1 x2 x3 h I f_x3 mq
    exact mu_zu f_x3 mq rfl
  | succ q ih =>
    intro x1 x2 x3 h I f_x3 mq
    unfold PX3_rivalsOf_oc1_4 FX3_rivalsOf_oc1_4
    refine sf_if (fun c1 => ?_) (fun c1 => ?_)
    · have f2 : iv 4 4 x3 := iv_ler f_x3 (iv_lit (lo := 4) (hi := 4) (x := 4) rfl) c1 rfl
      exact ⟨trivial, (iv_any x2)⟩
    · have f3 : iv 0 3 x3 := iv_ltl f_x3 (iv_lit (lo := 4) (hi := 4) (x := 4) rfl) (nle c1) rfl
      refine sf_if (fun c4 => ?_) (fun c4 => ?_)
      · have f5 : iv 0 3 x1 := iv_eqr (iv_any x1) f3 c4 rfl
        unfold PX3_rivalsOf_oc1_28 FX3_rivalsOf_oc1_28
        have f6 : iv 1 4 (x3 + 1) := iv_add f3 (iv_lit (lo := 1) (hi := 1) (x := 1) rfl) rfl
        exact ih x1 x2 (x3 + 1) h I (iv_w (c := 0) (d := 4) f6 rfl) (mu_up f3 mq rfl)
      · have s7 := SX3_canGo_oc1 (z := z) x3 h I f3
        refine sf_n s7.1 ?_
        refine sf_if (fun c8 => ?_) (fun c8 => ?_)
        · have f9 : iv 0 0 (FX3_canGo_oc1 x3 h) := iv_eql s7.2.1 (iv_lit (lo := 0) (hi := 0) (x := 0) rfl) c8 rfl
          unfold PX3_rivalsOf_oc1_28 FX3_rivalsOf_oc1_28
          have f10 : iv 1 4 (x3 + 1) := iv_add f3 (iv_lit (lo := 1) (hi := 1) (x := 1) rfl) rfl
          exact ih x1 x2 (x3 + 1) h I (iv_w (c := 0) (d := 4) f10 rfl) (mu_up f3 mq rfl)
        · have f11 : iv 0 23 (h 28 (x3.toNatClampNeg)) := iv_and (iv_any _) (s7.2.2 c8) rfl
          have f12 : iv 1 1 (FX3_canGo_oc1 x3 h) := iv_nel s7.2.1 c8 rfl
          unfold PX3_rivalsOf_oc1_28 FX3_rivalsOf_oc1_28
          have f13 : iv 1 4 (x3 + 1) := iv_add f3 (iv_lit (lo := 1) (hi := 1) (x := 1) rfl) rfl
          exact ih x1 (x2 ||| (1 <<< (x3 &&& 31))) (x3 + 1) h I (iv_w (c := 0) (d := 4) f13 rfl) (mu_up f3 mq rfl)
set_option maxRecDepth 100000 in
set_option maxHeartbeats 4000000 in
theorem SX3_rivalsOf_oc1 {z : zT} (a0 : Int32) (h : ph_H) (I : IC z h) : PX3_rivalsOf_oc1 a0 h ∧ iv (-2147483648) 2147483647 (FX3_rivalsOf_oc1 a0 h) := by
  unfold PX3_rivalsOf_oc1 FX3_rivalsOf_oc1
  exact SX3_rivalsOf_oc1_4 2000 a0 0 0 h I (iv_w (c := 0) (d := 4) (iv_lit (lo := 0) (hi := 0) (x := 0) rfl) rfl) (mu_0u (iv_lit (lo := 0) (hi := 0) (x := 0) rfl) rfl)

-- X6_chosen
set_option maxRecDepth 100000 in
set_option maxHeartbeats 4000000 in
theorem SX6_chosen_2 {z : zT} : ∀ (q : Nat) (x1 : Int32) (x2 : Int32) (h : ph_H), IC z h → iv 0 2 x2 → 2 - (x2).toInt < ((q : Nat) : Int) → PX6_chosen_2  q x1 x2 h ∧ iv (-2147483648) 2147483647 (FX6_chosen_2  q x1 x2 h) := by
  intro q
  induction q with
  | zero =>
    intro x1 x2 h I f_x2 mq
    exact mu_zu f_x2 mq rfl
  | succ q ih =>
    intro x1 x2 h I f_x2 mq
    unfold PX6_chosen_2 FX6_chosen_2
    have f1 : iv 0 2 (h 52 6) := ICv I 52 _
    refine sf_if (fun c2 => ?_) (fun c2 => ?_)
    · exact ⟨trivial, (iv_any x1)⟩
    · have f3 : iv 0 1 x2 := iv_ltl f_x2 f1 (nle c2) rfl
      have f4 : iv 1 2 (h 52 6) := iv_ltr f1 f_x2 (nle c2) rfl
      refine sf_if (fun c5 => ?_) (fun c5 => ?_)
      · have f6 : iv 2 1 2 := iv_lel (iv_lit (lo := 2) (hi := 2) (x := 2) rfl) f3 c5 rfl
        exact iv_no f6 rfl
      · refine sf_n (iv_in f3 rfl) ?_
        have f7 : iv 0 301 (h 54 (x2.toNatClampNeg)) := ICv I 54 _
        have f8 : iv 0 300 (h 52 7) := ICv I 52 _
        refine sf_if (fun c9 => ?_) (fun c9 => ?_)
        · have f10 : iv 0 300 (h 54 (x2.toNatClampNeg)) := iv_eql f7 f8 c9 rfl
          refine sf_n (iv_in f3 rfl) ?_
          have f11 : iv (-1) 3 (h 55 (x2.toNatClampNeg)) := ICv I 55 _
          exact ⟨trivial, (iv_any (h 55 (x2.toNatClampNeg)))⟩
        · have f12 : iv 1 2 (x2 + 1) := iv_add f3 (iv_lit (lo := 1) (hi := 1) (x := 1) rfl) rfl
          exact ih x1 (x2 + 1) h I (iv_w (c := 0) (d := 2) f12 rfl) (mu_up f3 mq rfl)
set_option maxRecDepth 100000 in
set_option maxHeartbeats 4000000 in
theorem SX6_chosen {z : zT} (a0 : Int32) (h : ph_H) (I : IC z h) : PX6_chosen a0 h ∧ iv (-2147483648) 2147483647 (FX6_chosen a0 h) := by
  unfold PX6_chosen FX6_chosen
  exact SX6_chosen_2 2000 a0 0 h I (iv_w (c := 0) (d := 2) (iv_lit (lo := 0) (hi := 0) (x := 0) rfl) rfl) (mu_0u (iv_lit (lo := 0) (hi := 0) (x := 0) rfl) rfl)

-- X11_found
set_option maxRecDepth 100000 in
set_option maxHeartbeats 4000000 in
theorem SX11_found {z : zT} (a0 : Int32) (h : ph_H) (I : IC z h) : PX11_found a0 h ∧ iv (-2147483648) 2147483647 (FX11_found a0 h) := by
  unfold PX11_found FX11_found
  refine sf_if (fun c1 => ?_) (fun c1 => ?_)
  · have f2 : iv (-2147483648) (-1) a0 := iv_ltl (iv_any a0) (iv_lit (lo := 0) (hi := 0) (x := 0) rfl) c1 rfl
    exact ⟨trivial, (iv_any (-1))⟩
  · have f3 : iv 0 2147483647 a0 := iv_ler (iv_any a0) (iv_lit (lo := 0) (hi := 0) (x := 0) rfl) (nlt c1) rfl
    refine sf_if (fun c4 => ?_) (fun c4 => ?_)
    · have f5 : iv 0 6 a0 := iv_lel f3 (iv_lit (lo := 6) (hi := 6) (x := 6) rfl) c4 rfl
      refine sf_if (fun c6 => ?_) (fun c6 => ?_)
      · have f7 : iv 6 6 a0 := iv_eql f5 (iv_lit (lo := 6) (hi := 6) (x := 6) rfl) c6 rfl
        have f8 : iv 0 100 (h 52 9) := ICv I 52 _
        exact ⟨trivial, (iv_any (h 52 9))⟩
      · have f9 : iv 0 5 a0 := iv_nel f5 c6 rfl
        have f10 : iv 0 1 (h 52 10) := ICv I 52 _
        refine sf_if (fun c11 => ?_) (fun c11 => ?_)
        · have f12 : iv 0 0 (h 52 10) := iv_eql f10 (iv_lit (lo := 0) (hi := 0) (x := 0) rfl) c11 rfl
          exact ⟨trivial, (iv_any (-2))⟩
        · have f13 : iv 1 1 (h 52 10) := iv_nel f10 c11 rfl
          refine sf_if (fun c14 => ?_) (fun c14 => ?_)
          · have f15 : iv 0 0 a0 := iv_eql f9 (iv_lit (lo := 0) (hi := 0) (x := 0) rfl) c14 rfl
            have f16 : iv 0 2 (h 52 6) := ICv I 52 _
            exact ⟨trivial, (iv_any (h 52 6))⟩
          · have f17 : iv 1 5 a0 := iv_nel f9 c14 rfl
            refine sf_if (fun c18 => ?_) (fun c18 => ?_)
            · have f19 : iv 5 5 a0 := iv_eql f17 (iv_lit (lo := 5) (hi := 5) (x := 5) rfl) c18 rfl
              exact ⟨trivial, (iv_any (h 52 8))⟩
            · have f20 : iv 1 4 a0 := iv_nel f17 c18 rfl
              have f21 : iv 0 3 (a0 - 1) := iv_sub f20 (iv_lit (lo := 1) (hi := 1) (x := 1) rfl) rfl
              have f22 : iv 0 1 ((a0 - 1) / 2) := iv_div (c := 2) f21 rfl
              have f23 : iv 0 2 (h 52 6) := ICv I 52 _
              refine sf_if (fun c24 => ?_) (fun c24 => ?_)
              · have f25 : iv 1 2 (h 52 6) := iv_ltr f23 f22 c24 rfl
                refine sf_if (fun c26 => ?_) (fun c26 => ?_)
                · have f27 : iv 1 1 (a0 - a0 / 2 * 2) := iv_eql (iv_any (a0 - a0 / 2 * 2)) (iv_lit (lo := 1) (hi := 1) (x := 1) rfl) c26 rfl
                  refine sf_n (iv_in f22 rfl) ?_
                  have f28 : iv 0 301 (h 54 (((a0 - 1) / 2).toNatClampNeg)) := ICv I 54 _
                  exact ⟨trivial, (iv_any (h 54 (((a0 - 1) / 2).toNatClampNeg)))⟩
                · refine sf_n (iv_in f22 rfl) ?_
                  have f29 : iv (-1) 3 (h 55 (((a0 - 1) / 2).toNatClampNeg)) := ICv I 55 _
                  exact ⟨trivial, (iv_any (h 55 (((a0 - 1) / 2).toNatClampNeg)))⟩
              · have f30 : iv 0 1 (h 52 6) := iv_lel f23 f22 (nlt c24) rfl
                exact ⟨trivial, (iv_any (-2))⟩
    · have f31 : iv 7 2147483647 a0 := iv_ltr f3 (iv_lit (lo := 6) (hi := 6) (x := 6) rfl) (nle c4) rfl
      exact ⟨trivial, (iv_any (-1))⟩

-- X11_isShelf
set_option maxRecDepth 100000 in
set_option maxHeartbeats 4000000 in
theorem SX11_isShelf  (a0 : Int32) : PX11_isShelf a0 ∧ Qc 0 1 (fun r => ¬ r = 0 → iv 0 7 a0) (FX11_isShelf a0) := by
  unfold PX11_isShelf FX11_isShelf
  refine sf_if (fun c1 => ?_) (fun c1 => ?_)
  · have f2 : iv (-2147483648) (-1) a0 := iv_ltl (iv_any a0) (iv_lit (lo := 0) (hi := 0) (x := 0) rfl) c1 rfl
    exact ⟨trivial, (iv_w (c := 0) (d := 1) (iv_lit (lo := 0) (hi := 0) (x := 0) rfl) rfl), fun z => absurd rfl z⟩
  · have f3 : iv 0 2147483647 a0 := iv_ler (iv_any a0) (iv_lit (lo := 0) (hi := 0) (x := 0) rfl) (nlt c1) rfl
    refine sf_if (fun c4 => ?_) (fun c4 => ?_)
    · have f5 : iv 8 2147483647 a0 := iv_ler f3 (iv_lit (lo := 8) (hi := 8) (x := 8) rfl) c4 rfl
      exact ⟨trivial, (iv_w (c := 0) (d := 1) (iv_lit (lo := 0) (hi := 0) (x := 0) rfl) rfl), fun z => absurd rfl z⟩
    · have f6 : iv 0 7 a0 := iv_ltl f3 (iv_lit (lo := 8) (hi := 8) (x := 8) rfl) (nle c4) rfl
      exact ⟨trivial, (iv_w (c := 0) (d := 1) (iv_lit (lo := 1) (hi := 1) (x := 1) rfl) rfl), fun _ => f6⟩

-- X11_cellSlot
set_option maxRecDepth 100000 in
set_option maxHeartbeats 4000000 in
theorem SX11_cellSlot  (a0 : Int32) : PX11_cellSlot a0 ∧ iv (-1) 11 (FX11_cellSlot a0) := by
  unfold PX11_cellSlot FX11_cellSlot
  have s1 := SX11_isCell a0 
  refine sf_n s1.1 ?_
  refine sf_if (fun c2 => ?_) (fun c2 => ?_)
  · have f3 : iv 0 0 (FX11_isCell a0) := iv_eql s1.2.1 (iv_lit (lo := 0) (hi := 0) (x := 0) rfl) c2 rfl
    exact ⟨trivial, (iv_w (c := (-1)) (d := 11) (iv_lit (lo := (-1)) (hi := (-1)) (x := (-1)) rfl) rfl)⟩
  · have f4 : iv 0 11 a0 := iv_and (iv_any _) (s1.2.2 c2) rfl
    have f5 : iv 1 1 (FX11_isCell a0) := iv_nel s1.2.1 c2 rfl
    exact ⟨trivial, (iv_w (c := (-1)) (d := 11) f4 rfl)⟩

-- X11_localSlot
set_option maxRecDepth 100000 in
set_option maxHeartbeats 4000000 in
theorem SX11_localSlot  (a0 : Int32) (a1 : Int32) : PX11_localSlot a0 a1 ∧ iv (-1) 27 (FX11_localSlot a0 a1) := by
  unfold PX11_localSlot FX11_localSlot
  have s1 := SX11_isThread a0 
  refine sf_n s1.1 ?_
  refine sf_if (fun c2 => ?_) (fun c2 => ?_)
  · have f3 : iv 0 0 (FX11_isThread a0) := iv_eql s1.2.1 (iv_lit (lo := 0) (hi := 0) (x := 0) rfl) c2 rfl
    exact ⟨trivial, (iv_w (c := (-1)) (d := 27) (iv_lit (lo := (-1)) (hi := (-1)) (x := (-1)) rfl) rfl)⟩
  · have f4 : iv 0 3 a0 := iv_and (iv_any _) (s1.2.2 c2) rfl
    have f5 : iv 1 1 (FX11_isThread a0) := iv_nel s1.2.1 c2 rfl
    refine sf_if (fun c6 => ?_) (fun c6 => ?_)
    · have f7 : iv (-2147483648) (-1) a1 := iv_ltl (iv_any a1) (iv_lit (lo := 0) (hi := 0) (x := 0) rfl) c6 rfl
      exact ⟨trivial, (iv_w (c := (-1)) (d := 27) (iv_lit (lo := (-1)) (hi := (-1)) (x := (-1)) rfl) rfl)⟩
    · have f8 : iv 0 2147483647 a1 := iv_ler (iv_any a1) (iv_lit (lo := 0) (hi := 0) (x := 0) rfl) (nlt c6) rfl
      refine sf_if (fun c9 => ?_) (fun c9 => ?_)
      · have f10 : iv 0 3 a1 := iv_ltl f8 (iv_lit (lo := 4) (hi := 4) (x := 4) rfl) c9 rfl
        have f11 : iv 0 12 (a0 * 4) := iv_mulr (c := 4) rfl f4 rfl
        have f12 : iv 12 24 (12 + (a0 * 4)) := iv_add (iv_lit (lo := 12) (hi := 12) (x := 12) rfl) f11 rfl
        have f13 : iv 12 27 ((12 + (a0 * 4)) + a1) := iv_add f12 f10 rfl
        exact ⟨trivial, (iv_w (c := (-1)) (d := 27) f13 rfl)⟩
      · have f14 : iv 4 2147483647 a1 := iv_ler f8 (iv_lit (lo := 4) (hi := 4) (x := 4) rfl) (nlt c9) rfl
        exact ⟨trivial, (iv_w (c := (-1)) (d := 27) (iv_lit (lo := (-1)) (hi := (-1)) (x := (-1)) rfl) rfl)⟩

-- X11_fits
set_option maxRecDepth 100000 in
set_option maxHeartbeats 4000000 in
theorem SX11_fits  (a0 : Int32) (a1 : Int32) (a2 : Int32) : PX11_fits a0 a1 a2 ∧ iv 0 1 (FX11_fits a0 a1 a2) := by
  unfold PX11_fits FX11_fits
  refine sf_if (fun c1 => ?_) (fun c1 => ?_)
  · have f2 : iv (-2147483648) (-1) a1 := iv_ltl (iv_any a1) (iv_lit (lo := 0) (hi := 0) (x := 0) rfl) c1 rfl
    exact ⟨trivial, (iv_w (c := 0) (d := 1) (iv_lit (lo := 0) (hi := 0) (x := 0) rfl) rfl)⟩
  · have f3 : iv 0 2147483647 a1 := iv_ler (iv_any a1) (iv_lit (lo := 0) (hi := 0) (x := 0) rfl) (nlt c1) rfl
    refine sf_if (fun c4 => ?_) (fun c4 => ?_)
    · have f5 : iv (-2147483648) (-1) a0 := iv_ltl (iv_any a0) (iv_lit (lo := 0) (hi := 0) (x := 0) rfl) c4 rfl
      exact ⟨trivial, (iv_w (c := 0) (d := 1) (iv_lit (lo := 0) (hi := 0) (x := 0) rfl) rfl)⟩
    · have f6 : iv 0 2147483647 a0 := iv_ler (iv_any a0) (iv_lit (lo := 0) (hi := 0) (x := 0) rfl) (nlt c4) rfl
      refine sf_if (fun c7 => ?_) (fun c7 => ?_)
      · have f8 : iv (-2147483648) 2147483646 a2 := iv_ltl (iv_any a2) f3 c7 rfl
        exact ⟨trivial, (iv_w (c := 0) (d := 1) (iv_lit (lo := 0) (hi := 0) (x := 0) rfl) rfl)⟩
      · have f9 : iv 0 2147483647 a2 := iv_ler (iv_any a2) f3 (nlt c7) rfl
        have f10 : iv 0 2147483647 (a2 - a1) := iv_subo f9 f3 (nlt c7) rfl
        refine sf_if (fun c11 => ?_) (fun c11 => ?_)
        · have f12 : iv 0 2147483646 (a2 - a1) := iv_ltl f10 f6 c11 rfl
          have f13 : iv 1 2147483647 a0 := iv_ltr f6 f10 c11 rfl
          exact ⟨trivial, (iv_w (c := 0) (d := 1) (iv_lit (lo := 0) (hi := 0) (x := 0) rfl) rfl)⟩
        · exact ⟨trivial, (iv_w (c := 0) (d := 1) (iv_lit (lo := 1) (hi := 1) (x := 1) rfl) rfl)⟩
end MG_18_s02
section MG_19_s
-- X3_go_s
set_option maxRecDepth 100000 in
set_option maxHeartbeats 4000000 in
theorem SX3_go_s {z : zT} (a0 : Int32) (h : ph_H) (I : IC z h) (f_a0 : iv 0 3 a0) : PX3_go_s a0 h ∧ QC z (-1) 19 (FX3_go_s a0 h) := by
  unfold PX3_go_s FX3_go_s
  have s1 := SX3_canGo_s (z := z) a0 h I f_a0
  refine sf_n s1.1 ?_
  refine sf_if (fun c2 => ?_) (fun c2 => ?_)
  · have f3 : iv 0 0 (FX3_canGo_s a0 h) := iv_eql s1.2.1 (iv_lit (lo := 0) (hi := 0) (x := 0) rfl) c2 rfl
    exact ⟨trivial, QC_mk (iv_w (c := (-1)) (d := 19) (iv_lit (lo := (-1)) (hi := (-1)) (x := (-1)) rfl) rfl) I⟩
  · have f4 : iv 0 23 (h 18 (a0.toNatClampNeg)) := iv_and (iv_any _) (s1.2.2 c2) rfl
    have f5 : iv 1 1 (FX3_canGo_s a0 h) := iv_nel s1.2.1 c2 rfl
    have I6 : IC z (hs h 15 14 (-2)) := ICs I (k := 15) (i := 14) (v := (-2)) (iv_any (-2)) rfl
    have I7 : IC z (hs (hs h 15 14 (-2)) 15 15 (-2)) := ICs I6 (k := 15) (i := 15) (v := (-2)) (iv_any (-2)) rfl
    have I8 : IC z (hs (hs (hs h 15 14 (-2)) 15 15 (-2)) 15 16 0) := ICm1 I7 (iv_w (c := 0) (d := 4) (iv_lit (lo := 0) (hi := 0) (x := 0) rfl) rfl) (by decide)
    have I9 : IC z (hs (hs (hs (hs h 15 14 (-2)) 15 15 (-2)) 15 16 0) 15 17 0) := ICmm I7 (iv_w (c := 0) (d := 4) (iv_lit (lo := 0) (hi := 0) (x := 0) rfl) rfl) (iv_w (c := 0) (d := 11) (iv_lit (lo := 0) (hi := 0) (x := 0) rfl) rfl) (fun e => absurd e (by decide))
    refine sf_n (iv_in f_a0 rfl) ?_
    have f10 : iv 1 24 ((h 18 (a0.toNatClampNeg)) + 1) := iv_add f4 (iv_lit (lo := 1) (hi := 1) (x := 1) rfl) rfl
    have I11 : IC z (hs (hs (hs (hs (hs h 15 14 (-2)) 15 15 (-2)) 15 16 0) 15 17 0) 15 13 ((h 18 (a0.toNatClampNeg)) + 1)) := ICs I9 (k := 15) (i := 13) (v := ((h 18 (a0.toNatClampNeg)) + 1)) (iv_any ((h 18 (a0.toNatClampNeg)) + 1)) rfl
    refine sf_n (iv_in f_a0 rfl) ?_
    refine sf_if (fun c12 => ?_) (fun c12 => ?_)
    · have f13 : iv 3 3 (h 19 (a0.toNatClampNeg)) := iv_eql (iv_any (h 19 (a0.toNatClampNeg))) (iv_lit (lo := 3) (hi := 3) (x := 3) rfl) c12 rfl
      have s14 := SX3_rise_s (z := z) a0 (hs (hs (hs (hs (hs h 15 14 (-2)) 15 15 (-2)) 15 16 0) 15 17 0) 15 13 ((h 18 (a0.toNatClampNeg)) + 1)) I11 f_a0
      refine sf_n s14.1 ?_
      unfold PX3_go_s_59 FX3_go_s_59
      unfold PX3_go_s_67 FX3_go_s_67
      refine sf_if (fun c15 => ?_) (fun c15 => ?_)
      · refine sf_n (iv_in f_a0 rfl) ?_
        have I16 : IC z (hs (FX3_rise_s a0 (hs (hs (hs (hs (hs h 15 14 (-2)) 15 15 (-2)) 15 16 0) 15 17 0) 15 13 ((h 18 (a0.toNatClampNeg)) + 1))).2 18 a0.toNatClampNeg ((FX3_rise_s a0 (hs (hs (hs (hs (hs h 15 14 (-2)) 15 15 (-2)) 15 16 0) 15 17 0) 15 13 ((h 18 (a0.toNatClampNeg)) + 1))).2 15 13)) := ICs s14.2.2 (k := 18) (i := a0.toNatClampNeg) (v := ((FX3_rise_s a0 (hs (hs (hs (hs (hs h 15 14 (-2)) 15 15 (-2)) 15 16 0) 15 17 0) 15 13 ((h 18 (a0.toNatClampNeg)) + 1))).2 15 13)) (iv_any ((FX3_rise_s a0 (hs (hs (hs (hs (hs h 15 14 (-2)) 15 15 (-2)) 15 16 0) 15 17 0) 15 13 ((h 18 (a0.toNatClampNeg)) + 1))).2 15 13)) rfl
        exact ⟨trivial, QC_mk (iv_w (c := (-1)) (d := 19) s14.2.1 rfl) I16⟩
      · have f17 : iv 0 (-1) ((FX3_rise_s a0 (hs (hs (hs (hs (hs h 15 14 (-2)) 15 15 (-2)) 15 16 0) 15 17 0) 15 13 ((h 18 (a0.toNatClampNeg)) + 1))).1) := iv_nel s14.2.1 c15 rfl
        exact iv_no f17 rfl
    · have s18 := SX3_perform_s (z := z) a0 (hs (hs (hs (hs (hs h 15 14 (-2)) 15 15 (-2)) 15 16 0) 15 17 0) 15 13 ((h 18 (a0.toNatClampNeg)) + 1)) I11 f_a0 (iv_r ((hz_k (by decide)).trans ((hz_k (by decide)).trans ((hz_k (by decide)).trans ((hz_k (by decide)).trans (hz_k (by decide)))))) f4)
      refine sf_n s18.1 ?_
      unfold PX3_go_s_67 FX3_go_s_67
      refine sf_if (fun c19 => ?_) (fun c19 => ?_)
      · have f20 : iv 0 0 ((FX3_perform_s a0 (hs (hs (hs (hs (hs h 15 14 (-2)) 15 15 (-2)) 15 16 0) 15 17 0) 15 13 ((h 18 (a0.toNatClampNeg)) + 1))).1) := iv_eql s18.2.1 (iv_lit (lo := 0) (hi := 0) (x := 0) rfl) c19 rfl
        refine sf_n (iv_in f_a0 rfl) ?_
        have I21 : IC z (hs (FX3_perform_s a0 (hs (hs (hs (hs (hs h 15 14 (-2)) 15 15 (-2)) 15 16 0) 15 17 0) 15 13 ((h 18 (a0.toNatClampNeg)) + 1))).2 18 a0.toNatClampNeg ((FX3_perform_s a0 (hs (hs (hs (hs (hs h 15 14 (-2)) 15 15 (-2)) 15 16 0) 15 17 0) 15 13 ((h 18 (a0.toNatClampNeg)) + 1))).2 15 13)) := ICs s18.2.2 (k := 18) (i := a0.toNatClampNeg) (v := ((FX3_perform_s a0 (hs (hs (hs (hs (hs h 15 14 (-2)) 15 15 (-2)) 15 16 0) 15 17 0) 15 13 ((h 18 (a0.toNatClampNeg)) + 1))).2 15 13)) (iv_any ((FX3_perform_s a0 (hs (hs (hs (hs (hs h 15 14 (-2)) 15 15 (-2)) 15 16 0) 15 17 0) 15 13 ((h 18 (a0.toNatClampNeg)) + 1))).2 15 13)) rfl
        exact ⟨trivial, QC_mk (iv_w (c := (-1)) (d := 19) f20 rfl) I21⟩
      · have f22 : iv 1 19 ((FX3_perform_s a0 (hs (hs (hs (hs (hs h 15 14 (-2)) 15 15 (-2)) 15 16 0) 15 17 0) 15 13 ((h 18 (a0.toNatClampNeg)) + 1))).1) := iv_nel s18.2.1 c19 rfl
        exact ⟨trivial, QC_mk (iv_w (c := (-1)) (d := 19) f22 rfl) s18.2.2⟩

-- X3_go_oc1
set_option maxRecDepth 100000 in
set_option maxHeartbeats 4000000 in
theorem SX3_go_oc1 {z : zT} (a0 : Int32) (h : ph_H) (I : IC z h) (f_a0 : iv 0 3 a0) : PX3_go_oc1 a0 h ∧ QC z (-1) 19 (FX3_go_oc1 a0 h) := by
  unfold PX3_go_oc1 FX3_go_oc1
  have s1 := SX3_canGo_oc1 (z := z) a0 h I f_a0
  refine sf_n s1.1 ?_
  refine sf_if (fun c2 => ?_) (fun c2 => ?_)
  · have f3 : iv 0 0 (FX3_canGo_oc1 a0 h) := iv_eql s1.2.1 (iv_lit (lo := 0) (hi := 0) (x := 0) rfl) c2 rfl
    exact ⟨trivial, QC_mk (iv_w (c := (-1)) (d := 19) (iv_lit (lo := (-1)) (hi := (-1)) (x := (-1)) rfl) rfl) I⟩
  · have f4 : iv 0 23 (h 28 (a0.toNatClampNeg)) := iv_and (iv_any _) (s1.2.2 c2) rfl
    have f5 : iv 1 1 (FX3_canGo_oc1 a0 h) := iv_nel s1.2.1 c2 rfl
    have I6 : IC z (hs h 25 14 (-2)) := ICs I (k := 25) (i := 14) (v := (-2)) (iv_any (-2)) rfl
    have I7 : IC z (hs (hs h 25 14 (-2)) 25 15 (-2)) := ICs I6 (k := 25) (i := 15) (v := (-2)) (iv_any (-2)) rfl
    have I8 : IC z (hs (hs (hs h 25 14 (-2)) 25 15 (-2)) 25 16 0) := ICs I7 (k := 25) (i := 16) (v := 0) (iv_w (c := 0) (d := 4) (iv_lit (lo := 0) (hi := 0) (x := 0) rfl) rfl) rfl
    have I9 : IC z (hs (hs (hs (hs h 25 14 (-2)) 25 15 (-2)) 25 16 0) 25 17 0) := ICs I8 (k := 25) (i := 17) (v := 0) (iv_w (c := 0) (d := 11) (iv_lit (lo := 0) (hi := 0) (x := 0) rfl) rfl) rfl
    refine sf_n (iv_in f_a0 rfl) ?_
    have f10 : iv 1 24 ((h 28 (a0.toNatClampNeg)) + 1) := iv_add f4 (iv_lit (lo := 1) (hi := 1) (x := 1) rfl) rfl
    have I11 : IC z (hs (hs (hs (hs (hs h 25 14 (-2)) 25 15 (-2)) 25 16 0) 25 17 0) 25 13 ((h 28 (a0.toNatClampNeg)) + 1)) := ICs I9 (k := 25) (i := 13) (v := ((h 28 (a0.toNatClampNeg)) + 1)) (iv_any ((h 28 (a0.toNatClampNeg)) + 1)) rfl
    refine sf_n (iv_in f_a0 rfl) ?_
    refine sf_if (fun c12 => ?_) (fun c12 => ?_)
    · have f13 : iv 3 3 (h 29 (a0.toNatClampNeg)) := iv_eql (iv_any (h 29 (a0.toNatClampNeg))) (iv_lit (lo := 3) (hi := 3) (x := 3) rfl) c12 rfl
      have s14 := SX3_rise_oc1 (z := z) a0 (hs (hs (hs (hs (hs h 25 14 (-2)) 25 15 (-2)) 25 16 0) 25 17 0) 25 13 ((h 28 (a0.toNatClampNeg)) + 1)) I11 f_a0
      refine sf_n s14.1 ?_
      unfold PX3_go_oc1_59 FX3_go_oc1_59
      unfold PX3_go_oc1_67 FX3_go_oc1_67
      refine sf_if (fun c15 => ?_) (fun c15 => ?_)
      · refine sf_n (iv_in f_a0 rfl) ?_
        have I16 : IC z (hs (FX3_rise_oc1 a0 (hs (hs (hs (hs (hs h 25 14 (-2)) 25 15 (-2)) 25 16 0) 25 17 0) 25 13 ((h 28 (a0.toNatClampNeg)) + 1))).2 28 a0.toNatClampNeg ((FX3_rise_oc1 a0 (hs (hs (hs (hs (hs h 25 14 (-2)) 25 15 (-2)) 25 16 0) 25 17 0) 25 13 ((h 28 (a0.toNatClampNeg)) + 1))).2 25 13)) := ICs s14.2.2 (k := 28) (i := a0.toNatClampNeg) (v := ((FX3_rise_oc1 a0 (hs (hs (hs (hs (hs h 25 14 (-2)) 25 15 (-2)) 25 16 0) 25 17 0) 25 13 ((h 28 (a0.toNatClampNeg)) + 1))).2 25 13)) (iv_any ((FX3_rise_oc1 a0 (hs (hs (hs (hs (hs h 25 14 (-2)) 25 15 (-2)) 25 16 0) 25 17 0) 25 13 ((h 28 (a0.toNatClampNeg)) + 1))).2 25 13)) rfl
        exact ⟨trivial, QC_mk (iv_w (c := (-1)) (d := 19) s14.2.1 rfl) I16⟩
      · have f17 : iv 0 (-1) ((FX3_rise_oc1 a0 (hs (hs (hs (hs (hs h 25 14 (-2)) 25 15 (-2)) 25 16 0) 25 17 0) 25 13 ((h 28 (a0.toNatClampNeg)) + 1))).1) := iv_nel s14.2.1 c15 rfl
        exact iv_no f17 rfl
    · have s18 := SX3_perform_oc1 (z := z) a0 (hs (hs (hs (hs (hs h 25 14 (-2)) 25 15 (-2)) 25 16 0) 25 17 0) 25 13 ((h 28 (a0.toNatClampNeg)) + 1)) I11 f_a0 (iv_r ((hz_k (by decide)).trans ((hz_k (by decide)).trans ((hz_k (by decide)).trans ((hz_k (by decide)).trans (hz_k (by decide)))))) f4)
      refine sf_n s18.1 ?_
      unfold PX3_go_oc1_67 FX3_go_oc1_67
      refine sf_if (fun c19 => ?_) (fun c19 => ?_)
      · have f20 : iv 0 0 ((FX3_perform_oc1 a0 (hs (hs (hs (hs (hs h 25 14 (-2)) 25 15 (-2)) 25 16 0) 25 17 0) 25 13 ((h 28 (a0.toNatClampNeg)) + 1))).1) := iv_eql s18.2.1 (iv_lit (lo := 0) (hi := 0) (x := 0) rfl) c19 rfl
        refine sf_n (iv_in f_a0 rfl) ?_
        have I21 : IC z (hs (FX3_perform_oc1 a0 (hs (hs (hs (hs (hs h 25 14 (-2)) 25 15 (-2)) 25 16 0) 25 17 0) 25 13 ((h 28 (a0.toNatClampNeg)) + 1))).2 28 a0.toNatClampNeg ((FX3_perform_oc1 a0 (hs (hs (hs (hs (hs h 25 14 (-2)) 25 15 (-2)) 25 16 0) 25 17 0) 25 13 ((h 28 (a0.toNatClampNeg)) + 1))).2 25 13)) := ICs s18.2.2 (k := 28) (i := a0.toNatClampNeg) (v := ((FX3_perform_oc1 a0 (hs (hs (hs (hs (hs h 25 14 (-2)) 25 15 (-2)) 25 16 0) 25 17 0) 25 13 ((h 28 (a0.toNatClampNeg)) + 1))).2 25 13)) (iv_any ((FX3_perform_oc1 a0 (hs (hs (hs (hs (hs h 25 14 (-2)) 25 15 (-2)) 25 16 0) 25 17 0) 25 13 ((h 28 (a0.toNatClampNeg)) + 1))).2 25 13)) rfl
        exact ⟨trivial, QC_mk (iv_w (c := (-1)) (d := 19) f20 rfl) I21⟩
      · have f22 : iv 1 19 ((FX3_perform_oc1 a0 (hs (hs (hs (hs (hs h 25 14 (-2)) 25 15 (-2)) 25 16 0) 25 17 0) 25 13 ((h 28 (a0.toNatClampNeg)) + 1))).1) := iv_nel s18.2.1 c19 rfl
        exact ⟨trivial, QC_mk (iv_w (c := (-1)) (d := 19) f22 rfl) s18.2.2⟩

-- X11_replay_s
set_option maxRecDepth 100000 in
set_option maxHeartbeats 4000000 in
theorem SX11_replay_s_3 {z : zT} : ∀ (q : Nat) (x3 : Int32) (x4 : Int32) (h : ph_H), IC z h → iv 0 300 x4 → 300 - (x4).toInt < ((q : Nat) : Int) → PX11_replay_s_3  q x3 x4 h ∧ IC z (FX11_replay_s_3  q x3 x4 h) := by
  intro q
  induction q with
  | zero =>
    intro x3 x4 h I f_x4 mq
    exact mu_zu f_x4 mq rfl
  | succ q ih =>
    intro x3 x4 h I f_x4 mq
    unfold PX11_replay_s_3 FX11_replay_s_3
    refine sf_if (fun c1 => ?_) (fun c1 => ?_)
    · have f2 : iv (-2147483648) 300 x3 := iv_lel (iv_any x3) f_x4 c1 rfl
      exact ⟨trivial, I⟩
    · have f3 : iv 1 2147483647 x3 := iv_ltr (iv_any x3) f_x4 (nle c1) rfl
      refine sf_if (fun c4 => ?_) (fun c4 => ?_)
      · have f5 : iv 300 300 x4 := iv_ler f_x4 (iv_lit (lo := 300) (hi := 300) (x := 300) rfl) c4 rfl
        exact ⟨trivial, I⟩
      · have f6 : iv 0 299 x4 := iv_ltl f_x4 (iv_lit (lo := 300) (hi := 300) (x := 300) rfl) (nle c4) rfl
        have f7 : iv 1 300 (x4 + 1) := iv_add f6 (iv_lit (lo := 1) (hi := 1) (x := 1) rfl) rfl
        refine sf_n (iv_in f7 rfl) ?_
        have f8 : iv 0 3 (h 36 ((x4 + 1).toNatClampNeg)) := ICv I 36 _
        have s9 := SX3_go_s (z := z) (h 36 ((x4 + 1).toNatClampNeg)) h I f8
        refine sf_n s9.1 ?_
        unfold PX11_replay_s_33 FX11_replay_s_33
        exact ih x3 (x4 + 1) ((FX3_go_s (h 36 ((x4 + 1).toNatClampNeg)) h).2) s9.2.2 (iv_w (c := 0) (d := 300) f7 rfl) (mu_up f6 mq rfl)
set_option maxRecDepth 100000 in
set_option maxHeartbeats 4000000 in
theorem SX11_replay_s {z : zT} (a1 : Int32) (a2 : Int32) (h : ph_H) (I : IC z h) (f_a1 : iv 0 300 a1) : PX11_replay_s a1 a2 h ∧ IC z (FX11_replay_s a1 a2 h) := by
  unfold PX11_replay_s FX11_replay_s
  exact SX11_replay_s_3 2000 a2 a1 h I f_a1 (mu_0u f_a1 rfl)

-- X4_learn
set_option maxRecDepth 100000 in
set_option maxHeartbeats 4000000 in
theorem SX4_learn {z : zT} (a0 : Int32) (h : ph_H) (I : IC z h) (f_a0 : iv 1 300 a0) : PX4_learn a0 h ∧ IC z (FX4_learn a0 h) := by
  unfold PX4_learn FX4_learn
  refine sf_n (iv_in f_a0 rfl) ?_
  have f1 : iv 0 3 (h 36 (a0.toNatClampNeg)) := ICv I 36 _
  have f2 : iv 0 12 ((h 36 (a0.toNatClampNeg)) * 4) := iv_mulr (c := 4) rfl f1 rfl
  refine sf_n (iv_in f_a0 rfl) ?_
  have f3 : iv 0 11 (h 44 (a0.toNatClampNeg)) := ICv I 44 _
  have f4 : iv 0 44 ((h 44 (a0.toNatClampNeg)) * 4) := iv_mulr (c := 4) rfl f3 rfl
  refine sf_n (iv_in f_a0 rfl) ?_
  have f5 : iv 0 15 (((h 36 (a0.toNatClampNeg)) * 4) + (h 36 (a0.toNatClampNeg))) := iv_add f2 f1 rfl
  refine sf_n (iv_in f5 rfl) ?_
  have I6 : IC z (hs h 49 (((h 36 (a0.toNatClampNeg)) * 4) + (h 36 (a0.toNatClampNeg))).toNatClampNeg a0) := ICs I (k := 49) (i := (((h 36 (a0.toNatClampNeg)) * 4) + (h 36 (a0.toNatClampNeg))).toNatClampNeg) (v := a0) (iv_any a0) rfl
  refine sf_n (iv_in f_a0 rfl) ?_
  have f7 : iv 0 4 (h 43 (a0.toNatClampNeg)) := ICv I 43 _
  refine sf_if (fun c8 => ?_) (fun c8 => ?_)
  · have f9 : iv 1 1 (h 43 (a0.toNatClampNeg)) := iv_eql f7 (iv_lit (lo := 1) (hi := 1) (x := 1) rfl) c8 rfl
    have s10 := SX4_join_k50k49 (z := z) ((h 44 (a0.toNatClampNeg)) * 4) ((h 36 (a0.toNatClampNeg)) * 4) (hs h 49 (((h 36 (a0.toNatClampNeg)) * 4) + (h 36 (a0.toNatClampNeg))).toNatClampNeg a0) I6 f4 f2
    refine sf_n s10.1 ?_
    unfold PX4_learn_67 FX4_learn_67
    unfold PX4_learn_125 FX4_learn_125
    have f11 : iv 4 1200 (a0 * 4) := iv_mulr (c := 4) rfl f_a0 rfl
    refine sf_n (cpok_iv f2 f11 (iv_lit (lo := 4) (hi := 4) (x := 4) rfl) rfl) ?_
    have I12 : IC z (hc (FX4_join_k50k49 ((h 44 (a0.toNatClampNeg)) * 4) ((h 36 (a0.toNatClampNeg)) * 4) (hs h 49 (((h 36 (a0.toNatClampNeg)) * 4) + (h 36 (a0.toNatClampNeg))).toNatClampNeg a0)) 49 48 ((h 36 (a0.toNatClampNeg)) * 4) (a0 * 4) 4) := ICcp s10.2 (k0 := 49) (k1 := 48) (fun _ => rfl) (fun _ => rfl) (fun _ => rfl)
    exact ⟨trivial, I12⟩
  · refine sf_n (iv_in f_a0 rfl) ?_
    refine sf_if (fun c13 => ?_) (fun c13 => ?_)
    · have f14 : iv 2 2 (h 43 (a0.toNatClampNeg)) := iv_eql f7 (iv_lit (lo := 2) (hi := 2) (x := 2) rfl) c13 rfl
      have s15 := SX4_join_k49k50 (z := z) ((h 36 (a0.toNatClampNeg)) * 4) ((h 44 (a0.toNatClampNeg)) * 4) (hs h 49 (((h 36 (a0.toNatClampNeg)) * 4) + (h 36 (a0.toNatClampNeg))).toNatClampNeg a0) I6 f2 f4
      refine sf_n s15.1 ?_
      unfold PX4_learn_96 FX4_learn_96
      unfold PX4_learn_125 FX4_learn_125
      have f16 : iv 4 1200 (a0 * 4) := iv_mulr (c := 4) rfl f_a0 rfl
      refine sf_n (cpok_iv f2 f16 (iv_lit (lo := 4) (hi := 4) (x := 4) rfl) rfl) ?_
      have I17 : IC z (hc (FX4_join_k49k50 ((h 36 (a0.toNatClampNeg)) * 4) ((h 44 (a0.toNatClampNeg)) * 4) (hs h 49 (((h 36 (a0.toNatClampNeg)) * 4) + (h 36 (a0.toNatClampNeg))).toNatClampNeg a0)) 49 48 ((h 36 (a0.toNatClampNeg)) * 4) (a0 * 4) 4) := ICcp s15.2 (k0 := 49) (k1 := 48) (fun _ => rfl) (fun _ => rfl) (fun _ => rfl)
      exact ⟨trivial, I17⟩
    · refine sf_n (iv_in f_a0 rfl) ?_
      refine sf_if (fun c18 => ?_) (fun c18 => ?_)
      · have f19 : iv 0 3 (h 44 (a0.toNatClampNeg)) := iv_and f3 (I.2.1.2.2.2 _ c18) rfl
        have f20 : iv 0 12 ((h 44 (a0.toNatClampNeg)) * 4) := iv_and f4 (iv_mulr (c := 4) (lo := 0) (hi := 12) rfl (I.2.1.2.2.2 _ c18) rfl) rfl
        have f21 : iv 4 4 (h 43 (a0.toNatClampNeg)) := iv_eql f7 (iv_lit (lo := 4) (hi := 4) (x := 4) rfl) c18 rfl
        have s22 := SX4_join_k49k49 (z := z) ((h 36 (a0.toNatClampNeg)) * 4) ((h 44 (a0.toNatClampNeg)) * 4) (hs h 49 (((h 36 (a0.toNatClampNeg)) * 4) + (h 36 (a0.toNatClampNeg))).toNatClampNeg a0) I6 f2 f20
        refine sf_n s22.1 ?_
        unfold PX4_learn_125 FX4_learn_125
        have f23 : iv 4 1200 (a0 * 4) := iv_mulr (c := 4) rfl f_a0 rfl
        refine sf_n (cpok_iv f2 f23 (iv_lit (lo := 4) (hi := 4) (x := 4) rfl) rfl) ?_
        have I24 : IC z (hc (FX4_join_k49k49 ((h 36 (a0.toNatClampNeg)) * 4) ((h 44 (a0.toNatClampNeg)) * 4) (hs h 49 (((h 36 (a0.toNatClampNeg)) * 4) + (h 36 (a0.toNatClampNeg))).toNatClampNeg a0)) 49 48 ((h 36 (a0.toNatClampNeg)) * 4) (a0 * 4) 4) := ICcp s22.2 (k0 := 49) (k1 := 48) (fun _ => rfl) (fun _ => rfl) (fun _ => rfl)
        exact ⟨trivial, I24⟩
      · have f25 : iv 0 3 (h 43 (a0.toNatClampNeg)) := iv_nel f7 c18 rfl
        unfold PX4_learn_125 FX4_learn_125
        have f26 : iv 4 1200 (a0 * 4) := iv_mulr (c := 4) rfl f_a0 rfl
        refine sf_n (cpok_iv f2 f26 (iv_lit (lo := 4) (hi := 4) (x := 4) rfl) rfl) ?_
        have I27 : IC z (hc (hs h 49 (((h 36 (a0.toNatClampNeg)) * 4) + (h 36 (a0.toNatClampNeg))).toNatClampNeg a0) 49 48 ((h 36 (a0.toNatClampNeg)) * 4) (a0 * 4) 4) := ICcp I6 (k0 := 49) (k1 := 48) (fun _ => rfl) (fun _ => rfl) (fun _ => rfl)
        exact ⟨trivial, I27⟩

-- X4_prepare
set_option maxRecDepth 100000 in
set_option maxHeartbeats 4000000 in
theorem SX4_prepare_31 {z : zT} : ∀ (q : Nat) (x1 : Int32) (h : ph_H), IC z h → iv 1 301 x1 → 301 - (x1).toInt < ((q : Nat) : Int) → PX4_prepare_31  q x1 h ∧ IC z (FX4_prepare_31  q x1 h) := by
  intro q
  induction q with
  | zero =>
    intro x1 h I f_x1 mq
    exact mu_zu f_x1 mq rfl
  | succ q ih =>
    intro x1 h I f_x1 mq
    unfold PX4_prepare_31 FX4_prepare_31
    have f1 : iv 0 300 (h 35 11) := ICv I 35 _
    refine sf_if (fun c2 => ?_) (fun c2 => ?_)
    · have I3 : IC z (hs h 47 6 1) := ICs I (k := 47) (i := 6) (v := 1) (iv_w (c := 0) (d := 1) (iv_lit (lo := 1) (hi := 1) (x := 1) rfl) rfl) rfl
      exact ⟨trivial, I3⟩
    · have f4 : iv 1 300 x1 := iv_lel f_x1 f1 (nlt c2) rfl
      have f5 : iv 1 300 (h 35 11) := iv_ler f1 f_x1 (nlt c2) rfl
      have s6 := SX4_learn (z := z) x1 h I f4
      refine sf_n s6.1 ?_
      unfold PX4_prepare_47 FX4_prepare_47
      have s7 := SX4_countRaces (z := z) x1 (FX4_learn x1 h) s6.2 (iv_w (c := 0) (d := 300) f4 rfl)
      refine sf_n s7.1 ?_
      refine sf_n (iv_in f4 rfl) ?_
      have I8 : IC z (hs (FX4_learn x1 h) 51 x1.toNatClampNeg (FX4_countRaces x1 (FX4_learn x1 h))) := ICs s6.2 (k := 51) (i := x1.toNatClampNeg) (v := (FX4_countRaces x1 (FX4_learn x1 h))) s7.2 rfl
      refine sf_n (iv_in f4 rfl) ?_
      have I9 : IC z (hs (hs (FX4_learn x1 h) 51 x1.toNatClampNeg (FX4_countRaces x1 (FX4_learn x1 h))) 47 5 (((FX4_learn x1 h) 47 5) + ((hs (FX4_learn x1 h) 51 x1.toNatClampNeg (FX4_countRaces x1 (FX4_learn x1 h))) 51 (x1.toNatClampNeg)))) := ICs I8 (k := 47) (i := 5) (v := (((FX4_learn x1 h) 47 5) + ((hs (FX4_learn x1 h) 51 x1.toNatClampNeg (FX4_countRaces x1 (FX4_learn x1 h))) 51 (x1.toNatClampNeg)))) (iv_any (((FX4_learn x1 h) 47 5) + ((hs (FX4_learn x1 h) 51 x1.toNatClampNeg (FX4_countRaces x1 (FX4_learn x1 h))) 51 (x1.toNatClampNeg)))) rfl
      have f10 : iv 2 301 (x1 + 1) := iv_add f4 (iv_lit (lo := 1) (hi := 1) (x := 1) rfl) rfl
      exact ih (x1 + 1) (hs (hs (FX4_learn x1 h) 51 x1.toNatClampNeg (FX4_countRaces x1 (FX4_learn x1 h))) 47 5 (((FX4_learn x1 h) 47 5) + ((hs (FX4_learn x1 h) 51 x1.toNatClampNeg (FX4_countRaces x1 (FX4_learn x1 h))) 51 (x1.toNatClampNeg)))) I9 (iv_w (c := 1) (d := 301) f10 rfl) (mu_up f4 mq rfl)
set_option maxRecDepth 100000 in
set_option maxHeartbeats 4000000 in
theorem SX4_prepare {z : zT} (h : ph_H) (I : IC z h) : PX4_prepare h ∧ IC z (FX4_prepare h) := by
  unfold PX4_prepare FX4_prepare
  have f1 : iv 0 1 (h 47 6) := ICv I 47 _
  refine sf_if (fun c2 => ?_) (fun c2 => ?_)
  · have f3 : iv 0 0 (h 47 6) := iv_eql f1 (iv_lit (lo := 0) (hi := 0) (x := 0) rfl) c2 rfl
    have s4 := SJ7_fill_53178_k49 (z := z) 0 h I
    refine sf_n s4.1 ?_
    unfold PX4_prepare_16 FX4_prepare_16
    have s5 := SJ7_fill_53178_k50 (z := z) 0 (FJ7_fill_53178_k49 0 h) s4.2
    refine sf_n s5.1 ?_
    unfold PX4_prepare_24 FX4_prepare_24
    have I6 : IC z (hs (FJ7_fill_53178_k50 0 (FJ7_fill_53178_k49 0 h)) 47 5 0) := ICs s5.2 (k := 47) (i := 5) (v := 0) (iv_any 0) rfl
    exact SX4_prepare_31 2000 1 (hs (FJ7_fill_53178_k50 0 (FJ7_fill_53178_k49 0 h)) 47 5 0) I6 (iv_w (c := 1) (d := 301) (iv_lit (lo := 1) (hi := 1) (x := 1) rfl) rfl) (mu_0u (iv_lit (lo := 1) (hi := 1) (x := 1) rfl) rfl)
  · have f7 : iv 1 1 (h 47 6) := iv_nel f1 c2 rfl
    exact ⟨trivial, I⟩

-- X11_race
set_option maxRecDepth 100000 in
set_option maxHeartbeats 4000000 in
theorem SX11_race {z : zT} (a0 : Int32) (a1 : Int32) (h : ph_H) (I : IC z h) : PX11_race a0 a1 h ∧ QC z (-2147483648) 2147483647 (FX11_race a0 a1 h) := by
  unfold PX11_race FX11_race
  have f1 : iv 0 1 (h 0 8) := ICv I 0 _
  refine sf_if (fun c2 => ?_) (fun c2 => ?_)
  · have f3 : iv 0 0 (h 0 8) := iv_eql f1 (iv_lit (lo := 0) (hi := 0) (x := 0) rfl) c2 rfl
    exact ⟨trivial, QC_mk (iv_any (-2)) I⟩
  · have f4 : iv 1 1 (h 0 8) := iv_nel f1 c2 rfl
    refine sf_if (fun c5 => ?_) (fun c5 => ?_)
    · have f6 : iv (-2147483648) (-1) a1 := iv_ltl (iv_any a1) (iv_lit (lo := 0) (hi := 0) (x := 0) rfl) c5 rfl
      exact ⟨trivial, QC_mk (iv_any (-1)) I⟩
    · have f7 : iv 0 2147483647 a1 := iv_ler (iv_any a1) (iv_lit (lo := 0) (hi := 0) (x := 0) rfl) (nlt c5) rfl
      refine sf_if (fun c8 => ?_) (fun c8 => ?_)
      · have f9 : iv 0 3 a1 := iv_lel f7 (iv_lit (lo := 3) (hi := 3) (x := 3) rfl) c8 rfl
        have s10 := SX4_prepare (z := z) h I
        refine sf_n s10.1 ?_
        unfold PX11_race_28 FX11_race_28
        refine sf_if (fun c11 => ?_) (fun c11 => ?_)
        · have f12 : iv 0 0 a1 := iv_eql f9 (iv_lit (lo := 0) (hi := 0) (x := 0) rfl) c11 rfl
          exact ⟨trivial, QC_mk (iv_any ((FX4_prepare h) 47 5)) s10.2⟩
        · have f13 : iv 1 3 a1 := iv_nel f9 c11 rfl
          refine sf_if (fun c14 => ?_) (fun c14 => ?_)
          · have f15 : iv (-2147483648) (-1) a0 := iv_ltl (iv_any a0) (iv_lit (lo := 0) (hi := 0) (x := 0) rfl) c14 rfl
            exact ⟨trivial, QC_mk (iv_any (-1)) s10.2⟩
          · have f16 : iv 0 2147483647 a0 := iv_ler (iv_any a0) (iv_lit (lo := 0) (hi := 0) (x := 0) rfl) (nlt c14) rfl
            refine sf_if (fun c17 => ?_) (fun c17 => ?_)
            · have f18 : iv 0 2147483646 a0 := iv_ltl f16 (iv_any ((FX4_prepare h) 47 5)) c17 rfl
              have f19 : iv 1 2147483647 ((FX4_prepare h) 47 5) := iv_ltr (iv_any ((FX4_prepare h) 47 5)) f16 c17 rfl
              have s20 := SX4_laterOf (z := z) a0 (FX4_prepare h) s10.2
              refine sf_n s20.1 ?_
              refine sf_if (fun c21 => ?_) (fun c21 => ?_)
              · have f22 : iv 2 2 a1 := iv_eql f13 (iv_lit (lo := 2) (hi := 2) (x := 2) rfl) c21 rfl
                exact ⟨trivial, QC_mk (iv_any (FX4_laterOf a0 (FX4_prepare h))) s10.2⟩
              · refine sf_if (fun c23 => ?_) (fun c23 => ?_)
                · have f24 : iv 3 3 a1 := iv_eql f13 (iv_lit (lo := 3) (hi := 3) (x := 3) rfl) c23 rfl
                  have s25 := SX10_placeOf (z := z) (FX4_laterOf a0 (FX4_prepare h)) (FX4_prepare h) s10.2 s20.2
                  refine sf_n s25.1 ?_
                  exact ⟨trivial, QC_mk s25.2 s10.2⟩
                · have f26 : iv 1 2 a1 := iv_nel f13 c23 rfl
                  have s27 := SX4_earlierOf (z := z) a0 (FX4_laterOf a0 (FX4_prepare h)) (FX4_prepare h) s10.2 s20.2
                  refine sf_n s27.1 ?_
                  exact ⟨trivial, QC_mk (iv_any (FX4_earlierOf a0 (FX4_laterOf a0 (FX4_prepare h)) (FX4_prepare h))) s10.2⟩
            · exact ⟨trivial, QC_mk (iv_any (-1)) s10.2⟩
      · have f28 : iv 4 2147483647 a1 := iv_ltr f7 (iv_lit (lo := 3) (hi := 3) (x := 3) rfl) (nle c8) rfl
        exact ⟨trivial, QC_mk (iv_any (-1)) I⟩

-- X3_go_oc2
set_option maxRecDepth 100000 in
set_option maxHeartbeats 4000000 in
theorem SX3_go_oc2 {z : zT} (a0 : Int32) (h : ph_H) (I : IC z h) (f_a0 : iv 0 3 a0) : PX3_go_oc2 a0 h ∧ QC z (-1) 19 (FX3_go_oc2 a0 h) := by
  unfold PX3_go_oc2 FX3_go_oc2
  have s1 := SX3_canGo_oc2 (z := z) a0 h I f_a0
  refine sf_n s1.1 ?_
  refine sf_if (fun c2 => ?_) (fun c2 => ?_)
  · have f3 : iv 0 0 (FX3_canGo_oc2 a0 h) := iv_eql s1.2.1 (iv_lit (lo := 0) (hi := 0) (x := 0) rfl) c2 rfl
    exact ⟨trivial, QC_mk (iv_w (c := (-1)) (d := 19) (iv_lit (lo := (-1)) (hi := (-1)) (x := (-1)) rfl) rfl) I⟩
  · have f4 : iv 0 23 (h 28 (a0.toNatClampNeg)) := iv_and (iv_any _) (s1.2.2 c2) rfl
    have f5 : iv 1 1 (FX3_canGo_oc2 a0 h) := iv_nel s1.2.1 c2 rfl
    have I6 : IC z (hs h 25 14 (-2)) := ICs I (k := 25) (i := 14) (v := (-2)) (iv_any (-2)) rfl
    have I7 : IC z (hs (hs h 25 14 (-2)) 25 15 (-2)) := ICs I6 (k := 25) (i := 15) (v := (-2)) (iv_any (-2)) rfl
    have I8 : IC z (hs (hs (hs h 25 14 (-2)) 25 15 (-2)) 25 16 0) := ICs I7 (k := 25) (i := 16) (v := 0) (iv_w (c := 0) (d := 4) (iv_lit (lo := 0) (hi := 0) (x := 0) rfl) rfl) rfl
    have I9 : IC z (hs (hs (hs (hs h 25 14 (-2)) 25 15 (-2)) 25 16 0) 25 17 0) := ICs I8 (k := 25) (i := 17) (v := 0) (iv_w (c := 0) (d := 11) (iv_lit (lo := 0) (hi := 0) (x := 0) rfl) rfl) rfl
    refine sf_n (iv_in f_a0 rfl) ?_
    have f10 : iv 1 24 ((h 28 (a0.toNatClampNeg)) + 1) := iv_add f4 (iv_lit (lo := 1) (hi := 1) (x := 1) rfl) rfl
    have I11 : IC z (hs (hs (hs (hs (hs h 25 14 (-2)) 25 15 (-2)) 25 16 0) 25 17 0) 25 13 ((h 28 (a0.toNatClampNeg)) + 1)) := ICs I9 (k := 25) (i := 13) (v := ((h 28 (a0.toNatClampNeg)) + 1)) (iv_any ((h 28 (a0.toNatClampNeg)) + 1)) rfl
    refine sf_n (iv_in f_a0 rfl) ?_
    refine sf_if (fun c12 => ?_) (fun c12 => ?_)
    · have f13 : iv 3 3 (h 29 (a0.toNatClampNeg)) := iv_eql (iv_any (h 29 (a0.toNatClampNeg))) (iv_lit (lo := 3) (hi := 3) (x := 3) rfl) c12 rfl
      have s14 := SX3_rise_oc2 (z := z) a0 (hs (hs (hs (hs (hs h 25 14 (-2)) 25 15 (-2)) 25 16 0) 25 17 0) 25 13 ((h 28 (a0.toNatClampNeg)) + 1)) I11 f_a0
      refine sf_n s14.1 ?_
      unfold PX3_go_oc2_59 FX3_go_oc2_59
      unfold PX3_go_oc2_67 FX3_go_oc2_67
      refine sf_if (fun c15 => ?_) (fun c15 => ?_)
      · refine sf_n (iv_in f_a0 rfl) ?_
        have I16 : IC z (hs (FX3_rise_oc2 a0 (hs (hs (hs (hs (hs h 25 14 (-2)) 25 15 (-2)) 25 16 0) 25 17 0) 25 13 ((h 28 (a0.toNatClampNeg)) + 1))).2 28 a0.toNatClampNeg ((FX3_rise_oc2 a0 (hs (hs (hs (hs (hs h 25 14 (-2)) 25 15 (-2)) 25 16 0) 25 17 0) 25 13 ((h 28 (a0.toNatClampNeg)) + 1))).2 25 13)) := ICs s14.2.2 (k := 28) (i := a0.toNatClampNeg) (v := ((FX3_rise_oc2 a0 (hs (hs (hs (hs (hs h 25 14 (-2)) 25 15 (-2)) 25 16 0) 25 17 0) 25 13 ((h 28 (a0.toNatClampNeg)) + 1))).2 25 13)) (iv_any ((FX3_rise_oc2 a0 (hs (hs (hs (hs (hs h 25 14 (-2)) 25 15 (-2)) 25 16 0) 25 17 0) 25 13 ((h 28 (a0.toNatClampNeg)) + 1))).2 25 13)) rfl
        exact ⟨trivial, QC_mk (iv_w (c := (-1)) (d := 19) s14.2.1 rfl) I16⟩
      · have f17 : iv 0 (-1) ((FX3_rise_oc2 a0 (hs (hs (hs (hs (hs h 25 14 (-2)) 25 15 (-2)) 25 16 0) 25 17 0) 25 13 ((h 28 (a0.toNatClampNeg)) + 1))).1) := iv_nel s14.2.1 c15 rfl
        exact iv_no f17 rfl
    · have s18 := SX3_perform_oc2 (z := z) a0 (hs (hs (hs (hs (hs h 25 14 (-2)) 25 15 (-2)) 25 16 0) 25 17 0) 25 13 ((h 28 (a0.toNatClampNeg)) + 1)) I11 f_a0 (iv_r ((hz_k (by decide)).trans ((hz_k (by decide)).trans ((hz_k (by decide)).trans ((hz_k (by decide)).trans (hz_k (by decide)))))) f4)
      refine sf_n s18.1 ?_
      unfold PX3_go_oc2_67 FX3_go_oc2_67
      refine sf_if (fun c19 => ?_) (fun c19 => ?_)
      · have f20 : iv 0 0 ((FX3_perform_oc2 a0 (hs (hs (hs (hs (hs h 25 14 (-2)) 25 15 (-2)) 25 16 0) 25 17 0) 25 13 ((h 28 (a0.toNatClampNeg)) + 1))).1) := iv_eql s18.2.1 (iv_lit (lo := 0) (hi := 0) (x := 0) rfl) c19 rfl
        refine sf_n (iv_in f_a0 rfl) ?_
        have I21 : IC z (hs (FX3_perform_oc2 a0 (hs (hs (hs (hs (hs h 25 14 (-2)) 25 15 (-2)) 25 16 0) 25 17 0) 25 13 ((h 28 (a0.toNatClampNeg)) + 1))).2 28 a0.toNatClampNeg ((FX3_perform_oc2 a0 (hs (hs (hs (hs (hs h 25 14 (-2)) 25 15 (-2)) 25 16 0) 25 17 0) 25 13 ((h 28 (a0.toNatClampNeg)) + 1))).2 25 13)) := ICs s18.2.2 (k := 28) (i := a0.toNatClampNeg) (v := ((FX3_perform_oc2 a0 (hs (hs (hs (hs (hs h 25 14 (-2)) 25 15 (-2)) 25 16 0) 25 17 0) 25 13 ((h 28 (a0.toNatClampNeg)) + 1))).2 25 13)) (iv_any ((FX3_perform_oc2 a0 (hs (hs (hs (hs (hs h 25 14 (-2)) 25 15 (-2)) 25 16 0) 25 17 0) 25 13 ((h 28 (a0.toNatClampNeg)) + 1))).2 25 13)) rfl
        exact ⟨trivial, QC_mk (iv_w (c := (-1)) (d := 19) f20 rfl) I21⟩
      · have f22 : iv 1 19 ((FX3_perform_oc2 a0 (hs (hs (hs (hs (hs h 25 14 (-2)) 25 15 (-2)) 25 16 0) 25 17 0) 25 13 ((h 28 (a0.toNatClampNeg)) + 1))).1) := iv_nel s18.2.1 c19 rfl
        exact ⟨trivial, QC_mk (iv_w (c := (-1)) (d := 19) f22 rfl) s18.2.2⟩

-- X11_replay_oc2
set_option maxRecDepth 100000 in
set_option maxHeartbeats 4000000 in
theorem SX11_replay_oc2_3 {z : zT} : ∀ (q : Nat) (x3 : Int32) (x4 : Int32) (h : ph_H), IC z h → iv 0 300 x4 → 300 - (x4).toInt < ((q : Nat) : Int) → PX11_replay_oc2_3  q x3 x4 h ∧ IC z (FX11_replay_oc2_3  q x3 x4 h) := by
  intro q
  induction q with
  | zero =>
    intro x3 x4 h I f_x4 mq
    exact mu_zu f_x4 mq rfl
  | succ q ih =>
    intro x3 x4 h I f_x4 mq
    unfold PX11_replay_oc2_3 FX11_replay_oc2_3
    refine sf_if (fun c1 => ?_) (fun c1 => ?_)
    · have f2 : iv (-2147483648) 300 x3 := iv_lel (iv_any x3) f_x4 c1 rfl
      exact ⟨trivial, I⟩
    · have f3 : iv 1 2147483647 x3 := iv_ltr (iv_any x3) f_x4 (nle c1) rfl
      refine sf_if (fun c4 => ?_) (fun c4 => ?_)
      · have f5 : iv 300 300 x4 := iv_ler f_x4 (iv_lit (lo := 300) (hi := 300) (x := 300) rfl) c4 rfl
        exact ⟨trivial, I⟩
      · have f6 : iv 0 299 x4 := iv_ltl f_x4 (iv_lit (lo := 300) (hi := 300) (x := 300) rfl) (nle c4) rfl
        have f7 : iv 1 300 (x4 + 1) := iv_add f6 (iv_lit (lo := 1) (hi := 1) (x := 1) rfl) rfl
        refine sf_n (iv_in f7 rfl) ?_
        have f8 : iv 0 3 (h 36 ((x4 + 1).toNatClampNeg)) := ICv I 36 _
        have s9 := SX3_go_oc2 (z := z) (h 36 ((x4 + 1).toNatClampNeg)) h I f8
        refine sf_n s9.1 ?_
        unfold PX11_replay_oc2_33 FX11_replay_oc2_33
        exact ih x3 (x4 + 1) ((FX3_go_oc2 (h 36 ((x4 + 1).toNatClampNeg)) h).2) s9.2.2 (iv_w (c := 0) (d := 300) f7 rfl) (mu_up f6 mq rfl)
set_option maxRecDepth 100000 in
set_option maxHeartbeats 4000000 in
theorem SX11_replay_oc2 {z : zT} (a1 : Int32) (a2 : Int32) (h : ph_H) (I : IC z h) (f_a1 : iv 0 300 a1) : PX11_replay_oc2 a1 a2 h ∧ IC z (FX11_replay_oc2 a1 a2 h) := by
  unfold PX11_replay_oc2 FX11_replay_oc2
  exact SX11_replay_oc2_3 2000 a2 a1 h I f_a1 (mu_0u f_a1 rfl)
end MG_19_s
section MG_20_begin
/-! a run begins: kinds 0, numbers 0, the first of them as told -/
theorem IC_kn_s {z : zT} {h h' : ph_H} (I : IC z h) (n : ∀ k i, ¬ k = 16 → ¬ k = 17 → h' k i = h k i) (fk : ∀ i, iv 0 3 (h' 16 i)) (kv : ∀ i, h' 16 i = 0 ∨ iv 0 11 (h' 17 i)) : IC z h' := by
  refine ⟨fun k i => ?_, ⟨kv, fun j => by rw [n _ _ (by decide) (by decide), n _ _ (by decide) (by decide)]; exact I.2.1.2.1 j, ?_, fun j => ?_⟩, fun k i e => ?_⟩
  · by_cases a : k = 16
    · subst a
      exact fk i
    · by_cases b : k = 17
      · subst b
        exact iv_any _
      · rw [n k i a b]
        exact I.1 k i
  · unfold MSm
    rw [n _ _ (by decide) (by decide), n _ _ (by decide) (by decide)]
    exact I.2.1.2.2.1
  · rw [n _ _ (by decide) (by decide), n _ _ (by decide) (by decide)]
    exact I.2.1.2.2.2 j
  · rw [n k i (fun a => by subst a; exact absurd (show false = true from e) (by decide)) (fun a => by subst a; exact absurd (show false = true from e) (by decide))]
    exact I.2.2 k i e
theorem ICk0_s {z : zT} {h : ph_H} (I : IC z h) (i : Nat) : IC z (hs h 16 i 0) := by
  refine IC_kn_s I (fun k j a _ => hs_o (fun c => a c.1)) (fun j => ?_) (fun j => ?_)
  · by_cases e : j = i
    · subst e
      rw [hz_e]
      exact ⟨by decide, by decide⟩
    · rw [hs_o (fun c => e c.2)]
      exact I.1 16 j
  · by_cases e : j = i
    · subst e
      exact Or.inl hz_e
    · rw [hs_o (fun c => e c.2), hs_o (fun c => absurd c.1 (by decide))]
      exact I.2.1.1 j
theorem ICn_s {z : zT} {h : ph_H} (I : IC z h) (i : Nat) {v : Int32} (f : iv 0 11 v) : IC z (hs h 17 i v) := by
  refine IC_kn_s I (fun k j _ a => hs_o (fun c => a c.1)) (fun j => ?_) (fun j => ?_)
  · rw [hs_o (fun c => absurd c.1 (by decide))]
    exact I.1 16 j
  · by_cases e : j = i
    · subst e
      rw [hz_e]
      exact Or.inr f
    · rw [hs_o (fun c => absurd c.1 (by decide)), hs_o (fun c => e c.2)]
      exact I.2.1.1 j
theorem ICc_s {z : zT} {h : ph_H} (I : IC z h) (k0 : Nat) (c : ∀ i, i < 28 → h 16 i = 0) : IC z (hc h k0 17 0 0 12) := by
  refine IC_kn_s I (fun k j _ a => hc_o a) (fun j => ?_) (fun j => ?_)
  · rw [hc_o (by decide)]
    exact I.1 16 j
  · rw [hc_o (by decide)]
    by_cases e : j < 28
    · exact Or.inl (c j e)
    · have w : hc h k0 17 0 0 12 17 j = h 17 j := by
        unfold hc
        rw [va_up_self]
        unfold va_cpy
        have d : (12 : Int32).toNatClampNeg = 12 := by decide
        have d0 : (0 : Int32).toNatClampNeg = 0 := by decide
        rw [d, d0, if_neg (by omega)]
      rw [w]
      exact I.2.1.1 j
theorem S_fillK_s {z : zT} : ∀ (q : Nat) (x2 : Int32) (h : ph_H), IC z h → iv 0 28 x2 → 28 - x2.toInt < (q : Int) → (∀ i, i < x2.toNatClampNeg → h 16 i = 0) → PJ7_fill_53178_k16_5 q 0 x2 28 h ∧ (IC z (FJ7_fill_53178_k16_5 q 0 x2 28 h) ∧ ∀ i, i < 28 → FJ7_fill_53178_k16_5 q 0 x2 28 h 16 i = 0) := by
  intro q
  induction q with
  | zero =>
    intro x2 h I f mq c
    exact mu_zu f mq rfl
  | succ q ih =>
    intro x2 h I f mq c
    unfold PJ7_fill_53178_k16_5 FJ7_fill_53178_k16_5
    have h28 : (28 : Int32).toInt = 28 := by decide
    refine sf_if (Q := fun o => IC z o ∧ ∀ i, i < 28 → o 16 i = 0) (fun e => ⟨trivial, I, fun i hi => c i ?_⟩) (fun e => ?_)
    · rw [Int32.le_iff_toInt_le, h28] at e
      have t : x2.toNatClampNeg = x2.toInt.toNat := rfl
      omega
    · have f2 : iv 0 27 x2 := iv_lt f e rfl
      refine sf_n (iv_in f2 rfl) (ih (x2 + 1) _ (ICk0_s I _) (iv_w (iv_add (lo := 1) (hi := 28) f2 (iv_lit (lo := 1) (hi := 1) (x := 1) rfl) rfl) rfl) (mu_up f2 mq rfl) (fun i hi => ?_))
      have t : (x2 + 1).toNatClampNeg = (x2 + 1).toInt.toNat := rfl
      have t2 : x2.toNatClampNeg = x2.toInt.toNat := rfl
      rw [t, ti_inc f2 rfl] at hi
      unfold iv at f2
      by_cases w : i = x2.toNatClampNeg
      · subst w
        exact hz_e
      · rw [hs_o (fun z => w z.2)]
        exact c i (by omega)
theorem S_fillN_s {z : zT} : ∀ (q : Nat) (x2 : Int32) (h : ph_H), IC z h → iv 0 28 x2 → 28 - x2.toInt < (q : Int) → (∀ i, i < 28 → h 16 i = 0) → PJ7_fill_53178_k17_5 q 0 x2 28 h ∧ (IC z (FJ7_fill_53178_k17_5 q 0 x2 28 h) ∧ ∀ i, i < 28 → FJ7_fill_53178_k17_5 q 0 x2 28 h 16 i = 0) := by
  intro q
  induction q with
  | zero =>
    intro x2 h I f mq c
    exact mu_zu f mq rfl
  | succ q ih =>
    intro x2 h I f mq c
    unfold PJ7_fill_53178_k17_5 FJ7_fill_53178_k17_5
    refine sf_if (Q := fun o => IC z o ∧ ∀ i, i < 28 → o 16 i = 0) (fun e => ⟨trivial, I, c⟩) (fun e => ?_)
    have f2 : iv 0 27 x2 := iv_lt f e rfl
    exact sf_n (iv_in f2 rfl) (ih (x2 + 1) _ (ICn_s I _ ⟨by decide, by decide⟩) (iv_w (iv_add (lo := 1) (hi := 28) f2 (iv_lit (lo := 1) (hi := 1) (x := 1) rfl) rfl) rfl) (mu_up f2 mq rfl) (fun i hi => (hz_k rfl).trans (c i hi)))
theorem IC_kn_o {z : zT} {h h' : ph_H} (I : IC z h) (n : ∀ k i, ¬ k = 26 → ¬ k = 27 → h' k i = h k i) (fk : ∀ i, iv 0 3 (h' 26 i)) (kv : ∀ i, h' 26 i = 0 ∨ iv 0 11 (h' 27 i)) : IC z h' := by
  refine ⟨fun k i => ?_, ⟨fun j => by rw [n _ _ (by decide) (by decide), n _ _ (by decide) (by decide)]; exact I.2.1.1 j, kv, ?_, fun j => ?_⟩, fun k i e => ?_⟩
  · by_cases a : k = 26
    · subst a
      exact fk i
    · by_cases b : k = 27
      · subst b
        exact iv_any _
      · rw [n k i a b]
        exact I.1 k i
  · unfold MSm
    rw [n _ _ (by decide) (by decide), n _ _ (by decide) (by decide)]
    exact I.2.1.2.2.1
  · rw [n _ _ (by decide) (by decide), n _ _ (by decide) (by decide)]
    exact I.2.1.2.2.2 j
  · rw [n k i (fun a => by subst a; exact absurd (show false = true from e) (by decide)) (fun a => by subst a; exact absurd (show false = true from e) (by decide))]
    exact I.2.2 k i e
theorem ICk0_o {z : zT} {h : ph_H} (I : IC z h) (i : Nat) : IC z (hs h 26 i 0) := by
  refine IC_kn_o I (fun k j a _ => hs_o (fun c => a c.1)) (fun j => ?_) (fun j => ?_)
  · by_cases e : j = i
    · subst e
      rw [hz_e]
      exact ⟨by decide, by decide⟩
    · rw [hs_o (fun c => e c.2)]
      exact I.1 26 j
  · by_cases e : j = i
    · subst e
      exact Or.inl hz_e
    · rw [hs_o (fun c => e c.2), hs_o (fun c => absurd c.1 (by decide))]
      exact I.2.1.2.1 j
theorem ICn_o {z : zT} {h : ph_H} (I : IC z h) (i : Nat) {v : Int32} (f : iv 0 11 v) : IC z (hs h 27 i v) := by
  refine IC_kn_o I (fun k j _ a => hs_o (fun c => a c.1)) (fun j => ?_) (fun j => ?_)
  · rw [hs_o (fun c => absurd c.1 (by decide))]
    exact I.1 26 j
  · by_cases e : j = i
    · subst e
      rw [hz_e]
      exact Or.inr f
    · rw [hs_o (fun c => absurd c.1 (by decide)), hs_o (fun c => e c.2)]
      exact I.2.1.2.1 j
theorem ICc_o {z : zT} {h : ph_H} (I : IC z h) (k0 : Nat) (c : ∀ i, i < 28 → h 26 i = 0) : IC z (hc h k0 27 0 0 12) := by
  refine IC_kn_o I (fun k j _ a => hc_o a) (fun j => ?_) (fun j => ?_)
  · rw [hc_o (by decide)]
    exact I.1 26 j
  · rw [hc_o (by decide)]
    by_cases e : j < 28
    · exact Or.inl (c j e)
    · have w : hc h k0 27 0 0 12 27 j = h 27 j := by
        unfold hc
        rw [va_up_self]
        unfold va_cpy
        have d : (12 : Int32).toNatClampNeg = 12 := by decide
        have d0 : (0 : Int32).toNatClampNeg = 0 := by decide
        rw [d, d0, if_neg (by omega)]
      rw [w]
      exact I.2.1.2.1 j
theorem S_fillK_o {z : zT} : ∀ (q : Nat) (x2 : Int32) (h : ph_H), IC z h → iv 0 28 x2 → 28 - x2.toInt < (q : Int) → (∀ i, i < x2.toNatClampNeg → h 26 i = 0) → PJ7_fill_53178_k26_5 q 0 x2 28 h ∧ (IC z (FJ7_fill_53178_k26_5 q 0 x2 28 h) ∧ ∀ i, i < 28 → FJ7_fill_53178_k26_5 q 0 x2 28 h 26 i = 0) := by
  intro q
  induction q with
  | zero =>
    intro x2 h I f mq c
    exact mu_zu f mq rfl
  | succ q ih =>
    intro x2 h I f mq c
    unfold PJ7_fill_53178_k26_5 FJ7_fill_53178_k26_5
    have h28 : (28 : Int32).toInt = 28 := by decide
    refine sf_if (Q := fun o => IC z o ∧ ∀ i, i < 28 → o 26 i = 0) (fun e => ⟨trivial, I, fun i hi => c i ?_⟩) (fun e => ?_)
    · rw [Int32.le_iff_toInt_le, h28] at e
      have t : x2.toNatClampNeg = x2.toInt.toNat := rfl
      omega
    · have f2 : iv 0 27 x2 := iv_lt f e rfl
      refine sf_n (iv_in f2 rfl) (ih (x2 + 1) _ (ICk0_o I _) (iv_w (iv_add (lo := 1) (hi := 28) f2 (iv_lit (lo := 1) (hi := 1) (x := 1) rfl) rfl) rfl) (mu_up f2 mq rfl) (fun i hi => ?_))
      have t : (x2 + 1).toNatClampNeg = (x2 + 1).toInt.toNat := rfl
      have t2 : x2.toNatClampNeg = x2.toInt.toNat := rfl
      rw [t, ti_inc f2 rfl] at hi
      unfold iv at f2
      by_cases w : i = x2.toNatClampNeg
      · subst w
        exact hz_e
      · rw [hs_o (fun z => w z.2)]
        exact c i (by omega)
theorem S_fillN_o {z : zT} : ∀ (q : Nat) (x2 : Int32) (h : ph_H), IC z h → iv 0 28 x2 → 28 - x2.toInt < (q : Int) → (∀ i, i < 28 → h 26 i = 0) → PJ7_fill_53178_k27_5 q 0 x2 28 h ∧ (IC z (FJ7_fill_53178_k27_5 q 0 x2 28 h) ∧ ∀ i, i < 28 → FJ7_fill_53178_k27_5 q 0 x2 28 h 26 i = 0) := by
  intro q
  induction q with
  | zero =>
    intro x2 h I f mq c
    exact mu_zu f mq rfl
  | succ q ih =>
    intro x2 h I f mq c
    unfold PJ7_fill_53178_k27_5 FJ7_fill_53178_k27_5
    refine sf_if (Q := fun o => IC z o ∧ ∀ i, i < 28 → o 26 i = 0) (fun e => ⟨trivial, I, c⟩) (fun e => ?_)
    have f2 : iv 0 27 x2 := iv_lt f e rfl
    exact sf_n (iv_in f2 rfl) (ih (x2 + 1) _ (ICn_o I _ ⟨by decide, by decide⟩) (iv_w (iv_add (lo := 1) (hi := 28) f2 (iv_lit (lo := 1) (hi := 1) (x := 1) rfl) rfl) rfl) (mu_up f2 mq rfl) (fun i hi => (hz_k rfl).trans (c i hi)))
theorem SX3_begin_st {z : zT} (a1 : Int32) (h : ph_H) (I : IC z h) : PX3_begin_st a1 h ∧ IC z (FX3_begin_st a1 h) := by
  unfold PX3_begin_st FX3_begin_st
  have s1 := S_fillK_s 2000 0 h I ⟨by decide, by decide⟩ (by decide) (fun i hi => absurd hi (Nat.not_lt_zero i))
  refine sf_n (show PJ7_fill_53178_k16 0 h from s1.1) ?_
  unfold PX3_begin_st_13 FX3_begin_st_13
  have s2 := S_fillN_s 2000 0 _ s1.2.1 ⟨by decide, by decide⟩ (by decide) s1.2.2
  refine sf_n (show PJ7_fill_53178_k17 0 _ from s2.1) ?_
  unfold PX3_begin_st_21 FX3_begin_st_21
  have I3 := ICc_s s2.2.1 11 s2.2.2
  refine sf_n (cpok_iv (iv_lit (lo := 0) (hi := 0) (x := 0) rfl) (iv_lit (lo := 0) (hi := 0) (x := 0) rfl) (iv_lit (lo := 12) (hi := 12) (x := 12) rfl) rfl) ?_
  have s4 := SJ7_fill_53178_k18 (z := z) 0 _ I3
  refine sf_n s4.1 ?_
  unfold PX3_begin_st_44 FX3_begin_st_44
  have s5 := SJ7_fill_53178_k19 (z := z) 0 _ s4.2
  refine sf_n s5.1 ?_
  unfold PX3_begin_st_52 FX3_begin_st_52
  exact sf_n (iv_in (iv_lit (lo := 0) (hi := 0) (x := 0) rfl) rfl) ⟨trivial, ICs (k := 15) (i := 12) (ICa 15 11 (ICs (k := 15) (i := 10) (ICa 19 _ s5.2 rfl rfl) (show iv 0 12 0 from ⟨by decide, by decide⟩) rfl) rfl rfl) (show iv 0 30 0 from ⟨by decide, by decide⟩) rfl⟩
theorem SX3_begin_on {z : zT} (a1 : Int32) (h : ph_H) (I : IC z h) : PX3_begin_on a1 h ∧ IC z (FX3_begin_on a1 h) := by
  unfold PX3_begin_on FX3_begin_on
  have s1 := S_fillK_o 2000 0 h I ⟨by decide, by decide⟩ (by decide) (fun i hi => absurd hi (Nat.not_lt_zero i))
  refine sf_n (show PJ7_fill_53178_k26 0 h from s1.1) ?_
  unfold PX3_begin_on_13 FX3_begin_on_13
  have s2 := S_fillN_o 2000 0 _ s1.2.1 ⟨by decide, by decide⟩ (by decide) s1.2.2
  refine sf_n (show PJ7_fill_53178_k27 0 _ from s2.1) ?_
  unfold PX3_begin_on_21 FX3_begin_on_21
  have I3 := ICc_o s2.2.1 4 s2.2.2
  refine sf_n (cpok_iv (iv_lit (lo := 0) (hi := 0) (x := 0) rfl) (iv_lit (lo := 0) (hi := 0) (x := 0) rfl) (iv_lit (lo := 12) (hi := 12) (x := 12) rfl) rfl) ?_
  have s4 := SJ7_fill_53178_k28 (z := z) 0 _ I3
  refine sf_n s4.1 ?_
  unfold PX3_begin_on_44 FX3_begin_on_44
  have s5 := SJ7_fill_53178_k29 (z := z) 0 _ s4.2
  refine sf_n s5.1 ?_
  unfold PX3_begin_on_52 FX3_begin_on_52
  exact sf_n (iv_in (iv_lit (lo := 0) (hi := 0) (x := 0) rfl) rfl) ⟨trivial, ICs (k := 25) (i := 12) (ICa 25 11 (ICs (k := 25) (i := 10) (ICa 29 _ s5.2 rfl rfl) (show iv 0 12 0 from ⟨by decide, by decide⟩) rfl) rfl rfl) (show iv 0 30 0 from ⟨by decide, by decide⟩) rfl⟩
theorem SX3_begin_ot {z : zT} (a1 : Int32) (h : ph_H) (I : IC z h) : PX3_begin_ot a1 h ∧ IC z (FX3_begin_ot a1 h) := by
  unfold PX3_begin_ot FX3_begin_ot
  have s1 := S_fillK_o 2000 0 h I ⟨by decide, by decide⟩ (by decide) (fun i hi => absurd hi (Nat.not_lt_zero i))
  refine sf_n (show PJ7_fill_53178_k26 0 h from s1.1) ?_
  unfold PX3_begin_ot_13 FX3_begin_ot_13
  have s2 := S_fillN_o 2000 0 _ s1.2.1 ⟨by decide, by decide⟩ (by decide) s1.2.2
  refine sf_n (show PJ7_fill_53178_k27 0 _ from s2.1) ?_
  unfold PX3_begin_ot_21 FX3_begin_ot_21
  have I3 := ICc_o s2.2.1 11 s2.2.2
  refine sf_n (cpok_iv (iv_lit (lo := 0) (hi := 0) (x := 0) rfl) (iv_lit (lo := 0) (hi := 0) (x := 0) rfl) (iv_lit (lo := 12) (hi := 12) (x := 12) rfl) rfl) ?_
  have s4 := SJ7_fill_53178_k28 (z := z) 0 _ I3
  refine sf_n s4.1 ?_
  unfold PX3_begin_ot_44 FX3_begin_ot_44
  have s5 := SJ7_fill_53178_k29 (z := z) 0 _ s4.2
  refine sf_n s5.1 ?_
  unfold PX3_begin_ot_52 FX3_begin_ot_52
  exact sf_n (iv_in (iv_lit (lo := 0) (hi := 0) (x := 0) rfl) rfl) ⟨trivial, ICs (k := 25) (i := 12) (ICa 25 11 (ICs (k := 25) (i := 10) (ICa 29 _ s5.2 rfl rfl) (show iv 0 12 0 from ⟨by decide, by decide⟩) rfl) rfl rfl) (show iv 0 30 0 from ⟨by decide, by decide⟩) rfl⟩
theorem SX3_begin_onc1 {z : zT} (a1 : Int32) (h : ph_H) (I : IC z h) : PX3_begin_onc1 a1 h ∧ IC z (FX3_begin_onc1 a1 h) := by
  unfold PX3_begin_onc1 FX3_begin_onc1
  have s1 := S_fillK_o 2000 0 h I ⟨by decide, by decide⟩ (by decide) (fun i hi => absurd hi (Nat.not_lt_zero i))
  refine sf_n (show PJ7_fill_53178_k26 0 h from s1.1) ?_
  unfold PX3_begin_onc1_13 FX3_begin_onc1_13
  have s2 := S_fillN_o 2000 0 _ s1.2.1 ⟨by decide, by decide⟩ (by decide) s1.2.2
  refine sf_n (show PJ7_fill_53178_k27 0 _ from s2.1) ?_
  unfold PX3_begin_onc1_21 FX3_begin_onc1_21
  have I3 := ICc_o s2.2.1 4 s2.2.2
  refine sf_n (cpok_iv (iv_lit (lo := 0) (hi := 0) (x := 0) rfl) (iv_lit (lo := 0) (hi := 0) (x := 0) rfl) (iv_lit (lo := 12) (hi := 12) (x := 12) rfl) rfl) ?_
  have s4 := SJ7_fill_53178_k28 (z := z) 0 _ I3
  refine sf_n s4.1 ?_
  unfold PX3_begin_onc1_44 FX3_begin_onc1_44
  have s5 := SJ7_fill_53178_k29 (z := z) 0 _ s4.2
  refine sf_n s5.1 ?_
  unfold PX3_begin_onc1_52 FX3_begin_onc1_52
  exact sf_n (iv_in (iv_lit (lo := 0) (hi := 0) (x := 0) rfl) rfl) ⟨trivial, ICs (k := 25) (i := 12) (ICa 25 11 (ICs (k := 25) (i := 10) (ICa 29 _ s5.2 rfl rfl) (show iv 0 12 0 from ⟨by decide, by decide⟩) rfl) rfl rfl) (show iv 0 30 0 from ⟨by decide, by decide⟩) rfl⟩
end MG_20_begin
section MG_21_s
-- X11_seenBehind
set_option maxRecDepth 100000 in
set_option maxHeartbeats 4000000 in
theorem SX11_seenBehind {z : zT} (a0 : Int32) (h : ph_H) (I : IC z h) (f_a0 : iv 0 300 a0) : PX11_seenBehind a0 h ∧ IC z (FX11_seenBehind a0 h) := by
  unfold PX11_seenBehind FX11_seenBehind
  have f1 : iv 0 300 (h 0 9) := ICv I 0 _
  refine sf_if (fun c2 => ?_) (fun c2 => ?_)
  · unfold PX11_seenBehind_31 FX11_seenBehind_31
    have s3 := SX11_replay_s (z := z) (h 0 9) a0 h I f1
    refine sf_n s3.1 ?_
    unfold PX11_seenBehind_44 FX11_seenBehind_44
    have I4 : IC z (hs (FX11_replay_s (h 0 9) a0 h) 0 9 a0) := ICs s3.2 (k := 0) (i := 9) (v := a0) f_a0 rfl
    exact ⟨trivial, I4⟩
  · have f5 : iv 0 299 a0 := iv_ltl f_a0 f1 (nle c2) rfl
    have f6 : iv 1 300 (h 0 9) := iv_ltr f1 f_a0 (nle c2) rfl
    have f7 : iv 0 30 (h 8 6) := ICv I 8 _
    have s8 := SX3_begin_st (z := z) (h 8 6) h I
    refine sf_n s8.1 ?_
    unfold PX11_seenBehind_26 FX11_seenBehind_26
    have I9 : IC z (hs (FX3_begin_st (h 8 6) h) 0 9 0) := ICs s8.2 (k := 0) (i := 9) (v := 0) (iv_w (c := 0) (d := 300) (iv_lit (lo := 0) (hi := 0) (x := 0) rfl) rfl) rfl
    unfold PX11_seenBehind_31 FX11_seenBehind_31
    have f10 : iv 0 0 ((hs (FX3_begin_st (h 8 6) h) 0 9 0) 0 9) := iv_r (hz_e) (iv_lit (lo := 0) (hi := 0) (x := 0) rfl)
    have s11 := SX11_replay_s (z := z) ((hs (FX3_begin_st (h 8 6) h) 0 9 0) 0 9) a0 (hs (FX3_begin_st (h 8 6) h) 0 9 0) I9 (iv_w (c := 0) (d := 300) f10 rfl)
    refine sf_n s11.1 ?_
    unfold PX11_seenBehind_44 FX11_seenBehind_44
    have I12 : IC z (hs (FX11_replay_s ((hs (FX3_begin_st (h 8 6) h) 0 9 0) 0 9) a0 (hs (FX3_begin_st (h 8 6) h) 0 9 0)) 0 9 a0) := ICs s11.2 (k := 0) (i := 9) (v := a0) (iv_w (c := 0) (d := 300) f5 rfl) rfl
    exact ⟨trivial, I12⟩

-- X11_thing
set_option maxRecDepth 100000 in
set_option maxHeartbeats 4000000 in
theorem SX11_thing {z : zT} (a0 : Int32) (a1 : Int32) (h : ph_H) (I : IC z h) : PX11_thing a0 a1 h ∧ QC z (-2147483648) 2147483647 (FX11_thing a0 a1 h) := by
  unfold PX11_thing FX11_thing
  have f1 : iv 0 1 (h 0 8) := ICv I 0 _
  refine sf_if (fun c2 => ?_) (fun c2 => ?_)
  · have f3 : iv 0 0 (h 0 8) := iv_eql f1 (iv_lit (lo := 0) (hi := 0) (x := 0) rfl) c2 rfl
    exact ⟨trivial, QC_mk (iv_any (-2)) I⟩
  · have f4 : iv 1 1 (h 0 8) := iv_nel f1 c2 rfl
    have f5 : iv 0 300 (h 0 10) := ICv I 0 _
    have s6 := SX11_seenBehind (z := z) (h 0 10) h I f5
    refine sf_n s6.1 ?_
    unfold PX11_thing_18 FX11_thing_18
    have s7 := SX3_hasThing_s (z := z) a0 (FX11_seenBehind (h 0 10) h) s6.2
    refine sf_n s7.1 ?_
    refine sf_if (fun c8 => ?_) (fun c8 => ?_)
    · have f9 : iv 0 0 (FX3_hasThing_s a0 (FX11_seenBehind (h 0 10) h)) := iv_eql s7.2.1 (iv_lit (lo := 0) (hi := 0) (x := 0) rfl) c8 rfl
      exact ⟨trivial, QC_mk (iv_any (-1)) s6.2⟩
    · have f10 : iv 0 11 a0 := iv_and (iv_any _) (s7.2.2 c8) rfl
      have f11 : iv 1 1 (FX3_hasThing_s a0 (FX11_seenBehind (h 0 10) h)) := iv_nel s7.2.1 c8 rfl
      refine sf_if (fun c12 => ?_) (fun c12 => ?_)
      · have f13 : iv (-2147483648) (-1) a1 := iv_ltl (iv_any a1) (iv_lit (lo := 0) (hi := 0) (x := 0) rfl) c12 rfl
        exact ⟨trivial, QC_mk (iv_any (-1)) s6.2⟩
      · have f14 : iv 0 2147483647 a1 := iv_ler (iv_any a1) (iv_lit (lo := 0) (hi := 0) (x := 0) rfl) (nlt c12) rfl
        refine sf_if (fun c15 => ?_) (fun c15 => ?_)
        · have f16 : iv 0 1 a1 := iv_lel f14 (iv_lit (lo := 1) (hi := 1) (x := 1) rfl) c15 rfl
          refine sf_if (fun c17 => ?_) (fun c17 => ?_)
          · have f18 : iv 0 0 a1 := iv_eql f16 (iv_lit (lo := 0) (hi := 0) (x := 0) rfl) c17 rfl
            refine sf_n (iv_in f10 rfl) ?_
            exact ⟨trivial, QC_mk (iv_any ((FX11_seenBehind (h 0 10) h) 21 (a0.toNatClampNeg))) s6.2⟩
          · have f19 : iv 1 1 a1 := iv_nel f16 c17 rfl
            refine sf_n (iv_in f10 rfl) ?_
            refine sf_if (fun c20 => ?_) (fun c20 => ?_)
            · have f21 : iv 1 1 ((FX11_seenBehind (h 0 10) h) 21 (a0.toNatClampNeg)) := iv_eql (iv_any ((FX11_seenBehind (h 0 10) h) 21 (a0.toNatClampNeg))) (iv_lit (lo := 1) (hi := 1) (x := 1) rfl) c20 rfl
              refine sf_n (iv_in f10 rfl) ?_
              have f22 : iv 0 16 ((FX11_seenBehind (h 0 10) h) 22 (a0.toNatClampNeg)) := ICv s6.2 22 _
              exact ⟨trivial, QC_mk (iv_any ((FX11_seenBehind (h 0 10) h) 22 (a0.toNatClampNeg))) s6.2⟩
            · refine sf_n (iv_in f10 rfl) ?_
              exact ⟨trivial, QC_mk (iv_any ((FX11_seenBehind (h 0 10) h) 23 (a0.toNatClampNeg))) s6.2⟩
        · have f23 : iv 2 2147483647 a1 := iv_ltr f14 (iv_lit (lo := 1) (hi := 1) (x := 1) rfl) (nle c15) rfl
          exact ⟨trivial, QC_mk (iv_any (-1)) s6.2⟩

-- X11_thread
set_option maxRecDepth 100000 in
set_option maxHeartbeats 4000000 in
theorem SX11_thread {z : zT} (a0 : Int32) (a1 : Int32) (h : ph_H) (I : IC z h) : PX11_thread a0 a1 h ∧ QC z (-2) 24 (FX11_thread a0 a1 h) := by
  unfold PX11_thread FX11_thread
  have f1 : iv 0 1 (h 0 8) := ICv I 0 _
  refine sf_if (fun c2 => ?_) (fun c2 => ?_)
  · have f3 : iv 0 0 (h 0 8) := iv_eql f1 (iv_lit (lo := 0) (hi := 0) (x := 0) rfl) c2 rfl
    exact ⟨trivial, QC_mk (iv_w (c := (-2)) (d := 24) (iv_lit (lo := (-2)) (hi := (-2)) (x := (-2)) rfl) rfl) I⟩
  · have f4 : iv 1 1 (h 0 8) := iv_nel f1 c2 rfl
    have s5 := SX11_isThread a0 
    refine sf_n s5.1 ?_
    refine sf_if (fun c6 => ?_) (fun c6 => ?_)
    · have f7 : iv 0 0 (FX11_isThread a0) := iv_eql s5.2.1 (iv_lit (lo := 0) (hi := 0) (x := 0) rfl) c6 rfl
      exact ⟨trivial, QC_mk (iv_w (c := (-2)) (d := 24) (iv_lit (lo := (-1)) (hi := (-1)) (x := (-1)) rfl) rfl) I⟩
    · have f8 : iv 0 3 a0 := iv_and (iv_any _) (s5.2.2 c6) rfl
      have f9 : iv 1 1 (FX11_isThread a0) := iv_nel s5.2.1 c6 rfl
      refine sf_if (fun c10 => ?_) (fun c10 => ?_)
      · have f11 : iv (-2147483648) (-1) a1 := iv_ltl (iv_any a1) (iv_lit (lo := 0) (hi := 0) (x := 0) rfl) c10 rfl
        exact ⟨trivial, QC_mk (iv_w (c := (-2)) (d := 24) (iv_lit (lo := (-1)) (hi := (-1)) (x := (-1)) rfl) rfl) I⟩
      · have f12 : iv 0 2147483647 a1 := iv_ler (iv_any a1) (iv_lit (lo := 0) (hi := 0) (x := 0) rfl) (nlt c10) rfl
        refine sf_if (fun c13 => ?_) (fun c13 => ?_)
        · have f14 : iv 0 1 a1 := iv_lel f12 (iv_lit (lo := 1) (hi := 1) (x := 1) rfl) c13 rfl
          have f15 : iv 0 300 (h 0 10) := ICv I 0 _
          have s16 := SX11_seenBehind (z := z) (h 0 10) h I f15
          refine sf_n s16.1 ?_
          unfold PX11_thread_36 FX11_thread_36
          refine sf_if (fun c17 => ?_) (fun c17 => ?_)
          · have f18 : iv 0 0 a1 := iv_eql f14 (iv_lit (lo := 0) (hi := 0) (x := 0) rfl) c17 rfl
            have s19 := SX3_nextInstruction_s (z := z) a0 (FX11_seenBehind (h 0 10) h) s16.2 f8
            refine sf_n s19.1 ?_
            exact ⟨trivial, QC_mk (iv_w (c := (-2)) (d := 24) s19.2 rfl) s16.2⟩
          · have f20 : iv 1 1 a1 := iv_nel f14 c17 rfl
            have s21 := SX3_standing_s (z := z) a0 (FX11_seenBehind (h 0 10) h) s16.2 f8
            refine sf_n s21.1 ?_
            exact ⟨trivial, QC_mk (iv_w (c := (-2)) (d := 24) s21.2 rfl) s16.2⟩
        · have f22 : iv 2 2147483647 a1 := iv_ltr f12 (iv_lit (lo := 1) (hi := 1) (x := 1) rfl) (nle c13) rfl
          exact ⟨trivial, QC_mk (iv_w (c := (-2)) (d := 24) (iv_lit (lo := (-1)) (hi := (-1)) (x := (-1)) rfl) rfl) I⟩

-- X11_ahead
set_option maxRecDepth 100000 in
set_option maxHeartbeats 4000000 in
theorem SX11_ahead {z : zT} (a0 : Int32) (a1 : Int32) (h : ph_H) (I : IC z h) : PX11_ahead a0 a1 h ∧ QC z (-2) 1 (FX11_ahead a0 a1 h) := by
  unfold PX11_ahead FX11_ahead
  have f1 : iv 0 1 (h 0 8) := ICv I 0 _
  refine sf_if (fun c2 => ?_) (fun c2 => ?_)
  · have f3 : iv 0 0 (h 0 8) := iv_eql f1 (iv_lit (lo := 0) (hi := 0) (x := 0) rfl) c2 rfl
    exact ⟨trivial, QC_mk (iv_w (c := (-2)) (d := 1) (iv_lit (lo := (-2)) (hi := (-2)) (x := (-2)) rfl) rfl) I⟩
  · have f4 : iv 1 1 (h 0 8) := iv_nel f1 c2 rfl
    refine sf_if (fun c5 => ?_) (fun c5 => ?_)
    · have f6 : iv (-2147483648) 0 a0 := iv_ltl (iv_any a0) (iv_lit (lo := 1) (hi := 1) (x := 1) rfl) c5 rfl
      exact ⟨trivial, QC_mk (iv_w (c := (-2)) (d := 1) (iv_lit (lo := (-1)) (hi := (-1)) (x := (-1)) rfl) rfl) I⟩
    · have f7 : iv 1 2147483647 a0 := iv_ler (iv_any a0) (iv_lit (lo := 1) (hi := 1) (x := 1) rfl) (nlt c5) rfl
      refine sf_if (fun c8 => ?_) (fun c8 => ?_)
      · exact ⟨trivial, QC_mk (iv_w (c := (-2)) (d := 1) (iv_lit (lo := (-1)) (hi := (-1)) (x := (-1)) rfl) rfl) I⟩
      · have f9 : iv 1 2147483646 a0 := iv_ltl f7 (iv_any a1) (nle c8) rfl
        have f10 : iv 2 2147483647 a1 := iv_ltr (iv_any a1) f7 (nle c8) rfl
        have f11 : iv 0 300 (h 35 11) := ICv I 35 _
        refine sf_if (fun c12 => ?_) (fun c12 => ?_)
        · have f13 : iv 2 300 a1 := iv_lel f10 f11 c12 rfl
          have f14 : iv 2 300 (h 35 11) := iv_ler f11 f10 c12 rfl
          have f15 : iv 1 300 a0 := iv_lel f9 f13 (Int32.le_of_lt (nle c8)) rfl
          have s16 := SX4_prepare (z := z) h I
          refine sf_n s16.1 ?_
          unfold PX11_ahead_40 FX11_ahead_40
          have s17 := SX4_isAhead (z := z) a0 a1 (FX4_prepare h) s16.2 (iv_w (c := 0) (d := 300) f15 rfl) (iv_w (c := 0) (d := 300) f13 rfl)
          refine sf_n s17.1 ?_
          refine sf_if (fun c18 => ?_) (fun c18 => ?_)
          · have f19 : iv 0 0 (FX4_isAhead a0 a1 (FX4_prepare h)) := iv_eql s17.2 (iv_lit (lo := 0) (hi := 0) (x := 0) rfl) c18 rfl
            exact ⟨trivial, QC_mk (iv_w (c := (-2)) (d := 1) (iv_lit (lo := 0) (hi := 0) (x := 0) rfl) rfl) s16.2⟩
          · have f20 : iv 1 1 (FX4_isAhead a0 a1 (FX4_prepare h)) := iv_nel s17.2 c18 rfl
            exact ⟨trivial, QC_mk (iv_w (c := (-2)) (d := 1) (iv_lit (lo := 1) (hi := 1) (x := 1) rfl) rfl) s16.2⟩
        · exact ⟨trivial, QC_mk (iv_w (c := (-2)) (d := 1) (iv_lit (lo := (-1)) (hi := (-1)) (x := (-1)) rfl) rfl) I⟩

-- X11_differ
set_option maxRecDepth 100000 in
set_option maxHeartbeats 4000000 in
theorem SX11_differ {z : zT} (a0 : Int32) (a1 : Int32) (h : ph_H) (I : IC z h) : PX11_differ a0 a1 h ∧ QC z (-2147483648) 2147483647 (FX11_differ a0 a1 h) := by
  unfold PX11_differ FX11_differ
  have f1 : iv 0 1 (h 0 8) := ICv I 0 _
  refine sf_if (fun c2 => ?_) (fun c2 => ?_)
  · have f3 : iv 0 0 (h 0 8) := iv_eql f1 (iv_lit (lo := 0) (hi := 0) (x := 0) rfl) c2 rfl
    exact ⟨trivial, QC_mk (iv_any (-2)) I⟩
  · have f4 : iv 1 1 (h 0 8) := iv_nel f1 c2 rfl
    have s5 := SX11_isMoment (z := z) a0 h I
    refine sf_n s5.1 ?_
    refine sf_if (fun c6 => ?_) (fun c6 => ?_)
    · have f7 : iv 0 0 (FX11_isMoment a0 h) := iv_eql s5.2.1 (iv_lit (lo := 0) (hi := 0) (x := 0) rfl) c6 rfl
      exact ⟨trivial, QC_mk (iv_any (-1)) I⟩
    · have f8 : iv 0 300 a0 := iv_and (iv_any _) (s5.2.2 c6) rfl
      have f9 : iv 1 1 (FX11_isMoment a0 h) := iv_nel s5.2.1 c6 rfl
      have s10 := SX11_isMoment (z := z) a1 h I
      refine sf_n s10.1 ?_
      refine sf_if (fun c11 => ?_) (fun c11 => ?_)
      · have f12 : iv 0 0 (FX11_isMoment a1 h) := iv_eql s10.2.1 (iv_lit (lo := 0) (hi := 0) (x := 0) rfl) c11 rfl
        exact ⟨trivial, QC_mk (iv_any (-1)) I⟩
      · have f13 : iv 0 300 a1 := iv_and (iv_any _) (s10.2.2 c11) rfl
        have f14 : iv 1 1 (FX11_isMoment a1 h) := iv_nel s10.2.1 c11 rfl
        have f15 : iv 0 30 (h 8 6) := ICv I 8 _
        have s16 := SX3_begin_ot (z := z) (h 8 6) h I
        refine sf_n s16.1 ?_
        unfold PX11_differ_46 FX11_differ_46
        have s17 := SX11_replay_oc2 (z := z) 0 a0 (FX3_begin_ot (h 8 6) h) s16.2 (iv_w (c := 0) (d := 300) (iv_lit (lo := 0) (hi := 0) (x := 0) rfl) rfl)
        refine sf_n s17.1 ?_
        unfold PX11_differ_56 FX11_differ_56
        have s18 := SX11_seenBehind (z := z) a1 (FX11_replay_oc2 0 a0 (FX3_begin_ot (h 8 6) h)) s17.2 f13
        refine sf_n s18.1 ?_
        unfold PX11_differ_61 FX11_differ_61
        have s19 := SX3_differences_soc2 (z := z) (FX11_seenBehind a1 (FX11_replay_oc2 0 a0 (FX3_begin_ot (h 8 6) h))) s18.2
        refine sf_n s19.1 ?_
        exact ⟨trivial, QC_mk s19.2 s18.2⟩
end MG_21_s
section MG_22_z
/-! What the class's calls that tell a program answer: the same as the reference's, by many, inputs and turns. -/
def zmC (z z' : zT) : Prop := (∀ i, z' 2 i = z 1 i) ∧ z' 1 6 = z 0 7 ∧ z' 1 7 = z 0 9
def CT (z : zT) (h : ph_H) : Prop := ∃ z', zmC z z' ∧ IC z' h
def QCT (z : zT) (a b : Int) (o : Int32 × ph_H) : Prop := iv a b o.1 ∧ CT z o.2
def QZc (r : Int32) (z : zT) (o : Int32 × ph_H) : Prop := o.1 = r ∧ CT z o.2
theorem QZc_mk {r x : Int32} {z : zT} {h : ph_H} (e : x = r) (I : CT z h) : QZc r z (x, h) := ⟨e, I⟩
theorem toC {z : zT} {h : ph_H} {P : Prop} {a b : Int} {o : Int32 × ph_H} (I : CT z h) (S : ∀ z', IC z' h → P ∧ QC z' a b o) : P ∧ QCT z a b o := by
  obtain ⟨z', m, i⟩ := I
  have s := S z' i
  exact ⟨s.1, s.2.1, z', m, s.2.2⟩
theorem isT_no {x : Int32} (c : FX11_isThread x = 0) : ¬ in_ 0 3 x := by
  intro w
  have h0 : (0 : Int32).toInt = 0 := by decide
  have h4 : (4 : Int32).toInt = 4 := by decide
  unfold FX11_isThread at c
  unfold in_ at w
  rw [if_neg (by rw [Int32.lt_iff_toInt_lt]; omega), if_neg (by rw [Int32.le_iff_toInt_le]; omega)] at c
  exact absurd c (by decide)
theorem isC_no {x : Int32} (c : FX11_isCell x = 0) : ¬ in_ 0 11 x := by
  intro w
  have h0 : (0 : Int32).toInt = 0 := by decide
  have h4 : (12 : Int32).toInt = 12 := by decide
  unfold FX11_isCell at c
  unfold in_ at w
  rw [if_neg (by rw [Int32.lt_iff_toInt_lt]; omega), if_neg (by rw [Int32.le_iff_toInt_le]; omega)] at c
  exact absurd c (by decide)
theorem nlt_in {x y : Int32} {a b : Int} (h : ¬ in_ a b x → False) : in_ a b x := Classical.byContradiction h
theorem eq_top {b : Int} {x y : Int32} (f : iv 0 b x) (c : ¬ x < y) (q : decide (y.toInt = b) = true) : x = y := by
  simp only [decide_eq_true_eq] at q
  rw [Int32.lt_iff_toInt_lt] at c
  unfold iv at f
  exact Int32.toInt_inj.mp (by omega)
theorem ne_top {x y : Int32} (c : x < y) : ¬ x = y := fun e => by
  subst e
  rw [Int32.lt_iff_toInt_lt] at c
  omega
theorem zmC_2 {z z' : zT} {i : Nat} {v : Int32} (m : zmC z z') : zmC (hs z 1 i v) (hs z' 2 i v) := by
  refine ⟨fun j => ?_, ?_, ?_⟩
  · by_cases e : j = i
    · subst e
      rw [hz_e, hz_e]
    · rw [hs_o (fun w => e w.2), hs_o (fun w => e w.2)]
      exact m.1 j
  · rw [hz_k rfl, hz_k rfl]
    exact m.2.1
  · rw [hz_k rfl, hz_k rfl]
    exact m.2.2
theorem zmC_7 {z z' : zT} {v : Int32} (m : zmC z z') : zmC (hs z 0 7 v) (hs z' 1 6 v) := by
  refine ⟨fun j => ?_, ?_, ?_⟩
  · rw [hz_k rfl, hz_k rfl]
    exact m.1 j
  · rw [hz_e, hz_e]
  · rw [hz_i rfl, hz_i rfl]
    exact m.2.2
theorem zmC_9 {z z' : zT} {v : Int32} (m : zmC z z') : zmC (hs z 0 9 v) (hs z' 1 7 v) := by
  refine ⟨fun j => ?_, ?_, ?_⟩
  · rw [hz_k rfl, hz_k rfl]
    exact m.1 j
  · rw [hz_i rfl, hz_i rfl]
    exact m.2.1
  · rw [hz_e, hz_e]
set_option maxRecDepth 100000 in
theorem SX11_code {z : zT} (a0 a1 a2 a3 a4 : Int32) (h : ph_H) (I : CT z h) : PX11_code a0 a1 a2 a3 a4 h ∧ QZc (zcR z a0 a1) (zcZ z a0 a1) (FX11_code a0 a1 a2 a3 a4 h) := by
  have s := SX11_isThread a0
  have h0 : (0 : Int32).toInt = 0 := by decide
  have h19 : (19 : Int32).toInt = 19 := by decide
  unfold PX11_code FX11_code
  have no : ¬ (in_ 0 3 a0 ∧ in_ 0 19 a1) → True ∧ QZc (zcR z a0 a1) (zcZ z a0 a1) ((-1 : Int32), h) := fun n => by
    unfold zcR zcZ
    rw [if_neg n, if_neg n]
    exact ⟨trivial, QZc_mk rfl I⟩
  refine sf_n s.1 (sf_if (fun c => no (fun w => isT_no c w.1)) (fun c1 => sf_if (fun c => no (fun w => ?_)) (fun c2 => sf_if (fun c3 => ?_) (fun c => no (fun w => ?_)))))
  · rw [Int32.lt_iff_toInt_lt, h0] at c
    have := w.2.1
    omega
  · have f0 : iv 0 3 a0 := s.2.2 c1
    have y : in_ 0 3 a0 ∧ in_ 0 19 a1 := ⟨f0, by
      rw [Int32.lt_iff_toInt_lt, h0] at c2
      rw [Int32.le_iff_toInt_le, h19] at c3
      exact ⟨by omega, c3⟩⟩
    obtain ⟨z1, m, i⟩ := I
    have eh : h 2 (a0.toNatClampNeg) = z 1 (a0.toNatClampNeg) := (ICz i 2 _ rfl).trans (m.1 _)
    have g : iv 0 24 (h 2 (a0.toNatClampNeg)) := ICv i 2 _
    unfold zcR zcZ
    rw [if_pos y, if_pos y]
    refine sf_n (iv_in f0 rfl) (sf_if (fun c => ?_) (fun c => ?_))
    · have n : ¬ z 1 (a0.toNatClampNeg) = 24 := fun w => ne_top c (eh.trans w)
      rw [if_neg n, if_neg n]
      have g2 : iv 0 23 (h 2 (a0.toNatClampNeg)) := iv_ltl g (iv_lit (lo := 24) (hi := 24) (x := 24) rfl) c rfl
      have p := SX5_firstPart_n (z := z1) a0 (h 2 (a0.toNatClampNeg)) h i f0 g2
      have f3 : iv 0 24 ((h 2 (a0.toNatClampNeg)) + 1) := iv_w (c := 0) (d := 24) (iv_add (lo := 1) (hi := 24) g2 (iv_lit (lo := 1) (hi := 1) (x := 1) rfl) rfl) rfl
      have q1 : iv 1 381 (FX5_firstPart_n a0 (h 2 (a0.toNatClampNeg)) h + 1) := iv_add p.2 (iv_lit (lo := 1) (hi := 1) (x := 1) rfl) rfl
      have q2 : iv 2 382 (FX5_firstPart_n a0 (h 2 (a0.toNatClampNeg)) h + 2) := iv_add p.2 (iv_lit (lo := 2) (hi := 2) (x := 2) rfl) rfl
      have q3 : iv 3 383 (FX5_firstPart_n a0 (h 2 (a0.toNatClampNeg)) h + 3) := iv_add p.2 (iv_lit (lo := 3) (hi := 3) (x := 3) rfl) rfl
      refine sf_n p.1 (sf_n (iv_in p.2 rfl) (sf_n (iv_in q1 rfl) (sf_n (iv_in q2 rfl) (sf_n (iv_in q3 rfl) (sf_n (iv_in f0 rfl) ⟨trivial, QZc_mk eh ?_⟩)))))
      rw [← eh]
      exact ⟨_, zmC_2 m, ICg (k := 2) (ICa 3 _ (ICa 3 _ (ICa 3 _ (ICa 3 _ i rfl rfl) rfl rfl) rfl rfl) rfl rfl) (show iv 0 24 _ from f3) rfl⟩
    · have e := eq_top g c rfl
      rw [if_pos (eh.symm.trans e), if_pos (eh.symm.trans e)]
      exact ⟨trivial, QZc_mk rfl ⟨z1, m, i⟩⟩
  · rw [Int32.le_iff_toInt_le, h19] at c
    have := w.2.2
    omega
theorem SX11_clear {z : zT} (a0 : Int32) (h : ph_H) (I : CT z h) : PX11_clear a0 h ∧ QZc (zlR z a0) (zlZ z a0) (FX11_clear a0 h) := by
  have s := SX11_isThread a0
  unfold PX11_clear FX11_clear zlR zlZ
  refine sf_n s.1 (sf_if (fun c => ?_) (fun c1 => ?_))
  · have n : ¬ in_ 0 3 a0 := isT_no c
    rw [if_neg n, if_neg n]
    exact ⟨trivial, QZc_mk rfl I⟩
  · have f0 : iv 0 3 a0 := s.2.2 c1
    have y : in_ 0 3 a0 := f0
    rw [if_pos y, if_pos y]
    obtain ⟨z1, m, i⟩ := I
    have eh : h 2 (a0.toNatClampNeg) = z 1 (a0.toNatClampNeg) := (ICz i 2 _ rfl).trans (m.1 _)
    exact sf_n (iv_in f0 rfl) (sf_n (iv_in f0 rfl) ⟨trivial, QZc_mk eh ⟨_, zmC_2 m, ICg (k := 2) i (show iv 0 24 0 from ⟨by decide, by decide⟩) rfl⟩⟩)
theorem SX11_cell_T {z : zT} (a0 a1 : Int32) (h : ph_H) (I : CT z h) : PX11_cell a0 a1 h ∧ QZc (zeR a0) z (FX11_cell a0 a1 h) := by
  have s := SX11_isCell a0
  unfold PX11_cell FX11_cell zeR
  refine sf_n s.1 (sf_if (fun c => ?_) (fun c1 => ?_))
  · have n : ¬ in_ 0 11 a0 := isC_no c
    rw [if_neg n]
    exact ⟨trivial, QZc_mk rfl I⟩
  · have f0 : iv 0 11 a0 := s.2.2 c1
    have y : in_ 0 11 a0 := f0
    rw [if_pos y]
    obtain ⟨z1, m, i⟩ := I
    exact sf_n (iv_in f0 rfl) ⟨trivial, QZc_mk rfl ⟨z1, m, ICa 4 _ i rfl rfl⟩⟩
theorem SX11_input {z : zT} (a0 : Int32) (h : ph_H) (I : CT z h) : PX11_input a0 h ∧ QZc (ziR z) (ziZ z) (FX11_input a0 h) := by
  obtain ⟨z1, m, i⟩ := I
  have eh : h 1 6 = z 0 7 := (ICz i 1 6 rfl).trans m.2.1
  have g : iv 0 30 (h 1 6) := ICv i 1 6
  unfold PX11_input FX11_input ziR ziZ
  refine sf_if (fun c => ?_) (fun c => ?_)
  · have n : ¬ z 0 7 = 30 := fun w => ne_top c (eh.trans w)
    rw [if_neg n, if_neg n]
    have g2 : iv 0 29 (h 1 6) := iv_ltl g (iv_lit (lo := 30) (hi := 30) (x := 30) rfl) c rfl
    have f3 : iv 0 30 ((h 1 6) + 1) := iv_w (c := 0) (d := 30) (iv_add (lo := 1) (hi := 30) g2 (iv_lit (lo := 1) (hi := 1) (x := 1) rfl) rfl) rfl
    refine sf_n (iv_in g2 rfl) ⟨trivial, QZc_mk (by rw [eh]) ?_⟩
    rw [← eh]
    exact ⟨_, zmC_7 m, ICg (k := 1) (i := 6) (ICa 5 _ i rfl rfl) (show iv 0 30 _ from f3) rfl⟩
  · have e := eq_top g c rfl
    rw [if_pos (eh.symm.trans e), if_pos (eh.symm.trans e)]
    exact ⟨trivial, QZc_mk rfl ⟨z1, m, i⟩⟩
theorem SX11_turn {z : zT} (a0 a1 : Int32) (h : ph_H) (I : CT z h) : PX11_turn a0 a1 h ∧ QZc (ztR z a0 a1) (ztZ z a0 a1) (FX11_turn a0 a1 h) := by
  have s := SX11_isThread a0
  have h1 : (1 : Int32).toInt = 1 := by decide
  have h100 : (100 : Int32).toInt = 100 := by decide
  unfold PX11_turn FX11_turn
  have no : ¬ (in_ 0 3 a0 ∧ in_ 1 100 a1) → True ∧ QZc (ztR z a0 a1) (ztZ z a0 a1) ((-1 : Int32), h) := fun n => by
    unfold ztR ztZ
    rw [if_neg n, if_neg n]
    exact ⟨trivial, QZc_mk rfl I⟩
  refine sf_n s.1 (sf_if (fun c => no (fun w => isT_no c w.1)) (fun c1 => sf_if (fun c => no (fun w => ?_)) (fun c2 => sf_if (fun c3 => ?_) (fun c => no (fun w => ?_)))))
  · rw [Int32.lt_iff_toInt_lt, h1] at c
    have := w.2.1
    omega
  · have f0 : iv 0 3 a0 := s.2.2 c1
    have f1 : iv 1 100 a1 := by
      rw [Int32.lt_iff_toInt_lt, h1] at c2
      rw [Int32.le_iff_toInt_le, h100] at c3
      exact ⟨by omega, c3⟩
    have y : in_ 0 3 a0 ∧ in_ 1 100 a1 := ⟨f0, f1⟩
    obtain ⟨z1, m, i⟩ := I
    have eh : h 1 7 = z 0 9 := (ICz i 1 7 rfl).trans m.2.2
    have g : iv 0 40 (h 1 7) := ICv i 1 7
    unfold ztR ztZ
    rw [if_pos y, if_pos y]
    refine sf_if (fun c => ?_) (fun c => ?_)
    · have n : ¬ z 0 9 = 40 := fun w => ne_top c (eh.trans w)
      rw [if_neg n, if_neg n]
      have g2 : iv 0 39 (h 1 7) := iv_ltl g (iv_lit (lo := 40) (hi := 40) (x := 40) rfl) c rfl
      have f3 : iv 0 40 ((h 1 7) + 1) := iv_w (c := 0) (d := 40) (iv_add (lo := 1) (hi := 40) g2 (iv_lit (lo := 1) (hi := 1) (x := 1) rfl) rfl) rfl
      refine sf_n (iv_in g2 rfl) (sf_n (iv_in g2 rfl) ⟨trivial, QZc_mk (by rw [eh]) ?_⟩)
      rw [← eh]
      exact ⟨_, zmC_9 m, ICg (k := 1) (i := 7) (ICs (k := 7) (ICs (k := 6) i (show iv 0 3 a0 from f0) rfl) (show iv 0 100 a1 from iv_w f1 rfl) rfl) (show iv 0 40 _ from f3) rfl⟩
    · have e := eq_top g c rfl
      rw [if_pos (eh.symm.trans e), if_pos (eh.symm.trans e)]
      exact ⟨trivial, QZc_mk rfl ⟨z1, m, i⟩⟩
  · rw [Int32.le_iff_toInt_le, h100] at c
    have := w.2.2
    omega
theorem SX11_freely {z : zT} (h : ph_H) (I : CT z h) : PX11_freely h ∧ QZc (z 0 9) (zfZ z) (FX11_freely h) := by
  obtain ⟨z1, m, i⟩ := I
  exact ⟨trivial, QZc_mk ((ICz i 1 7 rfl).trans m.2.2) ⟨_, zmC_9 m, ICg (k := 1) (i := 7) i (show iv 0 40 0 from ⟨by decide, by decide⟩) rfl⟩⟩
end MG_22_z
section MG_23_trace
/-! A run of the class: its CHANGES are no more than its steps. -/
def CH (z : zT) (h : ph_H) : Prop := ∃ z', zmC z z' ∧ IC z' h ∧ (z' 35 12).toInt ≤ (z' 35 11).toInt
def QH (z : zT) (o : Int32 × ph_H) : Prop := iv 0 1 o.1 ∧ CH z o.2
theorem QH_mk {z : zT} {x : Int32} {h : ph_H} (f : iv 0 1 x) (I : CH z h) : QH z (x, h) := ⟨f, I⟩
theorem CH.t {z : zT} {h : ph_H} (I : CH z h) : CT z h := by
  obtain ⟨z', m, i, _⟩ := I
  exact ⟨z', m, i⟩
theorem CHv {z : zT} {h : ph_H} (I : CH z h) (k i : Nat) : iv (tC k i).1 (tC k i).2 (h k i) := by
  obtain ⟨z', m, j, _⟩ := I
  exact ICv j k i
theorem zmC_o {z z' : zT} {k i : Nat} {v : Int32} (m : zmC z z') (n1 : Nat.beq 1 k = false) (n2 : Nat.beq 2 k = false) : zmC z (hs z' k i v) := ⟨fun j => (hz_k n2).trans (m.1 j), (hz_k n1).trans m.2.1, (hz_k n1).trans m.2.2⟩
theorem S_note {z : zT} {h : ph_H} {a0 : Int32} (I : IC z h) (f : iv 0 3 a0) (g : iv 0 299 (z 35 12)) : PX10_noteChange a0 h ∧ ∃ z2, IC z2 (FX10_noteChange a0 h) ∧ (z2 = z ∨ z2 = hs z 35 12 (z 35 12 + 1)) := by
  have s := SX10_latestThread (z := z) h I
  have e : h 35 12 = z 35 12 := ICz I 35 12 rfl
  have g2 : iv 0 299 (h 35 12) := iv_r e g
  unfold PX10_noteChange FX10_noteChange
  refine sf_n s.1 (sf_if (Q := fun o => ∃ z2, IC z2 o ∧ (z2 = z ∨ z2 = hs z 35 12 (z 35 12 + 1))) (fun _ => ⟨trivial, z, I, Or.inl rfl⟩) (fun _ => sf_n (iv_in g2 rfl) (sf_n (iv_in g2 rfl) ⟨trivial, hs z 35 12 (h 35 12 + 1), ?_, Or.inr (by rw [e])⟩)))
  have f9 : iv 0 300 (h 35 12 + 1) := iv_w (iv_add (lo := 1) (hi := 300) g2 (iv_lit (lo := 1) (hi := 1) (x := 1) rfl) rfl) rfl
  exact ICg (k := 35) (i := 12) (ICs (k := 46) (ICa 45 _ I rfl rfl) (show iv 0 3 a0 from f) rfl) (show iv 0 300 _ from f9) rfl
set_option maxRecDepth 100000 in
theorem S_adv51 {z z2 : zT} {h : ph_H} {x2 x3 : Int32} (I : IC z2 h) (f2 : iv 0 3 x2) (g : iv 0 299 (z2 35 11)) (cc : (z2 35 12).toInt ≤ (z2 35 11).toInt + 1) (m : zmC z z2) : PX10_advance_s_51 x2 x3 h ∧ QH z (FX10_advance_s_51 x2 x3 h) := by
  have e : h 35 11 = z2 35 11 := ICz I 35 11 rfl
  have g2 : iv 0 299 (h 35 11) := iv_r e g
  have f9 : iv 1 300 (h 35 11 + 1) := iv_add g2 (iv_lit (lo := 1) (hi := 1) (x := 1) rfl) rfl
  have I1 : IC (hs z2 35 11 (h 35 11 + 1)) (hs h 35 11 (h 35 11 + 1)) := ICg (k := 35) (i := 11) I (show iv 0 300 _ from iv_w f9 rfl) rfl
  have I2 : IC (hs z2 35 11 (h 35 11 + 1)) (hs (hs h 35 11 (h 35 11 + 1)) 36 (h 35 11 + 1).toNatClampNeg x2) := ICs (k := 36) I1 (show iv 0 3 x2 from f2) rfl
  have I3 : IC (hs z2 35 11 (h 35 11 + 1)) (hs (hs (hs h 35 11 (h 35 11 + 1)) 36 (h 35 11 + 1).toNatClampNeg x2) 37 (h 35 11 + 1).toNatClampNeg x3) := ICa 37 _ I2 rfl rfl
  have s := SX5_opOf_t (z := hs z2 35 11 (h 35 11 + 1)) x2 x3 _ I3 f2
  have I4 : IC (hs z2 35 11 (h 35 11 + 1)) (hs (hs (hs (hs h 35 11 (h 35 11 + 1)) 36 (h 35 11 + 1).toNatClampNeg x2) 37 (h 35 11 + 1).toNatClampNeg x3) 38 (h 35 11 + 1).toNatClampNeg (FX5_opOf_t x2 x3 (hs (hs (hs h 35 11 (h 35 11 + 1)) 36 (h 35 11 + 1).toNatClampNeg x2) 37 (h 35 11 + 1).toNatClampNeg x3))) := ICa 38 _ I3 rfl rfl
  have n := SX10_noteEffects_s (z := hs z2 35 11 (h 35 11 + 1)) _ I4
  unfold PX10_advance_s_51 FX10_advance_s_51
  refine sf_n (iv_in f9 rfl) (sf_n (iv_in f9 rfl) (sf_n s.1 (sf_n (iv_in f9 rfl) (sf_n n.1 ⟨trivial, QH_mk iv_01 ⟨_, zmC_o m rfl rfl, n.2, ?_⟩⟩))))
  have e12 : hs z2 35 11 (h 35 11 + 1) 35 12 = z2 35 12 := hz_i rfl
  rw [e12, hz_e, ti_inc g2 rfl, e]
  exact cc
theorem S_advance {z : zT} {h : ph_H} {a1 : Int32} (I : CH z h) (f : iv 0 3 a1) : PX10_advance_s a1 h ∧ QH z (FX10_advance_s a1 h) := by
  have N : True ∧ QH z ((0 : Int32), h) := ⟨trivial, QH_mk iv_00 I⟩
  obtain ⟨z1, m, i, c⟩ := I
  have e11 : h 35 11 = z1 35 11 := ICz i 35 11 rfl
  have g11 : iv 0 300 (h 35 11) := ICv i 35 11
  unfold PX10_advance_s FX10_advance_s
  refine sf_if (fun _ => sf_if (fun c1 => ?_) (fun _ => N)) (fun _ => N)
  have g2 : iv 0 299 (h 35 11) := iv_ltl g11 (iv_lit (lo := 300) (hi := 300) (x := 300) rfl) c1 rfl
  have g3 : iv 0 299 (z1 35 11) := iv_r e11.symm g2
  have n := SX3_nextInstruction_s (z := z1) a1 h i f
  have g := SX3_go_s (z := z1) a1 h i f
  refine sf_n n.1 (sf_n g.1 ?_)
  unfold PX10_advance_s_30 FX10_advance_s_30
  refine sf_if (fun _ => ⟨trivial, QH_mk iv_00 ⟨z1, m, g.2.2, c⟩⟩) (fun _ => ?_)
  have g12 : iv 0 300 (z1 35 12) := iv_r (ICz i 35 12 rfl).symm (ICv i 35 12)
  have t := S_note (a0 := a1) (ICa 35 14 (v := (FX3_go_s a1 h).1) g.2.2 rfl rfl) f (by
    unfold iv at *
    omega)
  refine sf_n t.1 ?_
  obtain ⟨z2, i2, r⟩ := t.2
  have w11 : z2 35 11 = z1 35 11 := by
    rcases r with r | r
    · rw [r]
    · rw [r]
      exact hz_i rfl
  have w12 : (z2 35 12).toInt ≤ (z1 35 12).toInt + 1 := by
    rcases r with r | r
    · rw [r]
      omega
    · rw [r, hz_e, ti_inc g12 rfl]
      omega
  have m2 : zmC z z2 := by
    rcases r with r | r
    · rw [r]
      exact m
    · rw [r]
      exact zmC_o m rfl rfl
  exact S_adv51 i2 f (iv_r w11 g3) (by rw [w11]; omega) m2
theorem S_tt30 {z : zT} (L2 : Int32 → ph_H → ph_H) (LP2 : Int32 → ph_H → Prop) (x3 : Int32) (hL : ∀ h, CH z h → LP2 (x3 + 1) h ∧ CH z (L2 (x3 + 1) h)) (f3 : iv 0 39 x3) {x4 : Int32} (f4 : iv 0 3 x4) : ∀ (q : Nat) (x5 x6 : Int32) (h : ph_H), CH z h → iv 0 100 x6 → 100 - x6.toInt < (q : Int) → PX10_takeTurns_st_30 LP2 q x3 x4 x5 x6 h ∧ CH z (FX10_takeTurns_st_30 L2 q x3 x4 x5 x6 h) := by
  intro q
  induction q with
  | zero =>
    intro x5 x6 h I f mq
    exact mu_zu f mq rfl
  | succ q ih =>
    intro x5 x6 h I f mq
    unfold PX10_takeTurns_st_30 FX10_takeTurns_st_30
    have g : iv 0 100 (h 14 (x3.toNatClampNeg)) := CHv I 14 _
    refine sf_n (iv_in f3 rfl) (sf_if (fun _ => hL h I) (fun c => sf_if (fun _ => hL h I) (fun _ => ?_)))
    have f2 : iv 0 99 x6 := iv_ltl f g (nle c) rfl
    have s := S_advance I f4
    exact sf_n s.1 (ih _ _ _ s.2.2 (iv_w (iv_add (lo := 1) (hi := 100) f2 (iv_lit (lo := 1) (hi := 1) (x := 1) rfl) rfl) rfl) (mu_up f2 mq rfl))
theorem S_tt2 {z : zT} : ∀ (q : Nat) (x3 : Int32) (h : ph_H), CH z h → iv 0 40 x3 → 40 - x3.toInt < (q : Int) → PX10_takeTurns_st_2 q x3 h ∧ CH z (FX10_takeTurns_st_2 q x3 h) := by
  intro q
  induction q with
  | zero =>
    intro x3 h I f mq
    exact mu_zu f mq rfl
  | succ q ih =>
    intro x3 h I f mq
    unfold PX10_takeTurns_st_2 FX10_takeTurns_st_2
    refine sf_if (fun _ => ⟨trivial, I⟩) (fun _ => sf_if (fun _ => ⟨trivial, I⟩) (fun c => ?_))
    have f2 : iv 0 39 x3 := iv_lt f c rfl
    exact sf_n (iv_in f2 rfl) (S_tt30 _ _ x3 (fun h' I' => ih _ _ I' (iv_w (iv_add (lo := 1) (hi := 40) f2 (iv_lit (lo := 1) (hi := 1) (x := 1) rfl) rfl) rfl) (mu_up f2 mq rfl)) f2 (show iv 0 3 _ from CHv I 13 _) 2000 1 0 h I ⟨by decide, by decide⟩ (by decide))
theorem S_go4 {z : zT} : ∀ (q : Nat) (x2 x3 : Int32) (h : ph_H), CH z h → iv 0 300 x3 → 300 - x3.toInt < (q : Int) → PX10_goOn_s_4 q x2 x3 h ∧ CH z (FX10_goOn_s_4 q x2 x3 h) := by
  intro q
  induction q with
  | zero =>
    intro x2 x3 h I f mq
    exact mu_zu f mq rfl
  | succ q ih =>
    intro x2 x3 h I f mq
    unfold PX10_goOn_s_4 FX10_goOn_s_4
    refine sf_if (fun _ => ⟨trivial, I⟩) (fun c => sf_if (fun _ => ⟨trivial, I⟩) (fun _ => ?_))
    have f2 : iv 0 299 x3 := iv_lt f c rfl
    have nx : ∀ (v : Int32) (h' : ph_H), CH z h' → PX10_goOn_s_4 q v (x3 + 1) h' ∧ CH z (FX10_goOn_s_4 q v (x3 + 1) h') := fun v h' I' => ih _ _ _ I' (iv_w (iv_add (lo := 1) (hi := 300) f2 (iv_lit (lo := 1) (hi := 1) (x := 1) rfl) rfl) rfl) (mu_up f2 mq rfl)
    have I0 := I
    obtain ⟨z1, m, i, cc⟩ := I0
    have l := SX10_latestThread (z := z1) h i
    have w := SX3_whoGoes_s (z := z1) (FX10_latestThread h) h i
    refine sf_n l.1 (sf_n w.1 (sf_if (fun _ => nx 0 h I) (fun c2 => ?_)))
    have f4 : iv 0 3 (FX3_whoGoes_s (FX10_latestThread h) h) := iv_ler w.2 (iv_lit (lo := 0) (hi := 0) (x := 0) rfl) (nlt c2) rfl
    have s := S_advance I f4
    refine sf_n s.1 ?_
    unfold PX10_goOn_s_37 FX10_goOn_s_37
    exact sf_if (fun _ => nx 0 _ s.2.2) (fun _ => nx 1 _ s.2.2)
theorem S_record {z : zT} {h : ph_H} (I : CT z h) : PX10_record_s h ∧ CT z (FX10_record_s h) := by
  obtain ⟨z1, m, i⟩ := I
  have z3 : iv 0 300 (0 : Int32) := ⟨by decide, by decide⟩
  have I1 : CH z (hs (hs (hs h 35 11 0) 35 12 0) 35 14 0) := by
    refine ⟨hs (hs z1 35 11 0) 35 12 0, zmC_o (zmC_o m rfl rfl) rfl rfl, ICa 35 14 (ICg (k := 35) (i := 12) (ICg (k := 35) (i := 11) i z3 rfl) z3 rfl) rfl rfl, ?_⟩
    have e : hs (hs z1 35 11 0) 35 12 0 35 11 = 0 := (hz_i rfl).trans hz_e
    rw [hz_e, e]
    exact Int.le_refl _
  have s := S_tt2 2000 0 _ I1 ⟨by decide, by decide⟩ (by decide)
  have g := S_go4 2000 1 0 _ s.2 ⟨by decide, by decide⟩ (by decide)
  obtain ⟨z2, m2, i2, _⟩ := g.2
  have o := SX10_howOver_s (z := z2) _ i2
  unfold PX10_record_s FX10_record_s
  refine sf_n (show PX10_takeTurns_st _ from s.1) ?_
  unfold PX10_record_s_24 FX10_record_s_24
  refine sf_n (show PX10_goOn_s _ from g.1) ?_
  unfold PX10_record_s_29 FX10_record_s_29
  exact sf_n o.1 ⟨trivial, z2, m2, ICs (k := 35) (i := 16) (ICs (k := 35) (i := 15) (ICa 35 13 i2 rfl rfl) (show iv 0 12 _ from ICv i2 15 10) rfl) (show iv 0 30 _ from ICv i2 15 12) rfl⟩
theorem SX11_run {z : zT} (h : ph_H) (I : CT z h) : PX11_run h ∧ QCT z (-2147483648) 2147483647 (FX11_run h) := by
  obtain ⟨z1, m, i⟩ := I
  have b := SX5_become_tn (z := z1) h i
  have c := SX3_begin_st (z := z1) (FX5_become_tn h 8 6) _ b.2
  have r := S_record ⟨z1, m, c.2⟩
  obtain ⟨z2, m2, i2⟩ := r.2
  have f := SX4_forget (z := z2) _ i2
  unfold PX11_run FX11_run
  refine sf_n b.1 ?_
  unfold PX11_run_11 FX11_run_11
  refine sf_n c.1 ?_
  unfold PX11_run_29 FX11_run_29
  refine sf_n r.1 ?_
  unfold PX11_run_40 FX11_run_40
  refine sf_n f.1 ?_
  unfold PX11_run_47 FX11_run_47
  have g : iv 0 300 (FX4_forget (FX10_record_s (FX3_begin_st (FX5_become_tn h 8 6) (FX5_become_tn h))) 35 11) := ICv f.2 35 11
  exact ⟨trivial, iv_any _, z2, m2, ICs (k := 0) (i := 10) (ICs (k := 0) (i := 9) (ICs (k := 0) (i := 8) f.2 (show iv 0 1 1 from iv_01) rfl) (show iv 0 300 _ from g) rfl) (show iv 0 300 _ from g) rfl⟩
end MG_23_trace
section MG_24_play
/-! play -/
theorem QCT_mk {z : zT} {a b : Int} {x : Int32} {h : ph_H} (f : iv a b x) (I : CT z h) : QCT z a b (x, h) := ⟨f, I⟩
theorem CTv {z : zT} {h : ph_H} (I : CT z h) (k i : Nat) : iv (tC k i).1 (tC k i).2 (h k i) := by
  obtain ⟨z', m, j⟩ := I
  exact ICv j k i
theorem S_gb106 {z : zT} {L37 : Int32 → Int32 → Int32 → Int32 → ph_H → Int32 × ph_H} {LP37 : Int32 → Int32 → Int32 → Int32 → ph_H → Prop} {h : ph_H} {x1 x2 x3 x4 : Int32} (C : ∀ (x2 : Int32) (h' : ph_H), CT z h' → iv (-1) 3 x2 → (h' 0 11).toInt = (h 0 11).toInt + 1 → LP37 x1 x2 x3 x4 h' ∧ QCT z (-2147483648) 2147483647 (L37 x1 x2 x3 x4 h')) (I : CT z h) (f2 : iv (-1) 3 x2) (g : iv 0 299 (h 0 11)) : PX11_goByRecordc1_106 LP37 x1 x2 x3 x4 h ∧ QCT z (-2147483648) 2147483647 (FX11_goByRecordc1_106 L37 x1 x2 x3 x4 h) := by
  unfold PX11_goByRecordc1_106 FX11_goByRecordc1_106
  refine sf_if (fun c => ?_) (fun _ => ⟨trivial, QCT_mk (iv_any _) I⟩)
  have f3 : iv 0 3 x2 := iv_ler f2 (iv_lit (lo := 0) (hi := 0) (x := 0) rfl) c rfl
  obtain ⟨z1, m, i⟩ := I
  have s := SX3_go_oc1 (z := z1) x2 h i f3
  refine sf_n s.1 ?_
  have e : (FX3_go_oc1 x2 h).2 0 11 = h 0 11 := (ICz s.2.2 0 11 rfl).trans (ICz i 0 11 rfl).symm
  have g2 : iv 0 299 ((FX3_go_oc1 x2 h).2 0 11) := iv_r e g
  have f9 : iv 0 300 ((FX3_go_oc1 x2 h).2 0 11 + 1) := iv_w (iv_add (lo := 1) (hi := 300) g2 (iv_lit (lo := 1) (hi := 1) (x := 1) rfl) rfl) rfl
  have I1 : CT z (FX3_go_oc1 x2 h).2 := ⟨z1, m, s.2.2⟩
  have I2 : CT z (hs (FX3_go_oc1 x2 h).2 0 11 ((FX3_go_oc1 x2 h).2 0 11 + 1)) := ⟨_, zmC_o m rfl rfl, ICg (k := 0) (i := 11) s.2.2 f9 rfl⟩
  unfold PX11_goByRecordc1_120 FX11_goByRecordc1_120
  refine sf_if (fun _ => ⟨trivial, QCT_mk (iv_any _) I1⟩) (fun _ => sf_if (fun _ => ⟨trivial, QCT_mk (iv_any _) I1⟩) (fun _ => sf_if (fun _ => C x2 _ I2 f2 ?_) (fun _ => ⟨trivial, QCT_mk (iv_any _) I2⟩)))
  rw [hz_e, ti_inc g2 rfl, e]
theorem S_gb88 {z : zT} {L37 : Int32 → Int32 → Int32 → Int32 → ph_H → Int32 × ph_H} {LP37 : Int32 → Int32 → Int32 → Int32 → ph_H → Prop} {h : ph_H} {x1 x2 x3 x4 : Int32} (C : ∀ (x2 : Int32) (h' : ph_H), CT z h' → iv (-1) 3 x2 → (h' 0 11).toInt = (h 0 11).toInt + 1 → LP37 x1 x2 x3 x4 h' ∧ QCT z (-2147483648) 2147483647 (L37 x1 x2 x3 x4 h')) (I : CT z h) (f2 : iv (-1) 3 x2) (g : iv 0 299 (h 0 11)) : PX11_goByRecordc1_88 LP37 x1 x2 x3 x4 h ∧ QCT z (-2147483648) 2147483647 (FX11_goByRecordc1_88 L37 x1 x2 x3 x4 h) := by
  unfold PX11_goByRecordc1_88 FX11_goByRecordc1_88
  refine sf_if (fun _ => S_gb106 C I f2 g) (fun _ => ?_)
  have I0 := I
  obtain ⟨z1, m, i⟩ := I0
  have w := SX3_whoGoes_oc1 (z := z1) x2 h i
  exact sf_n w.1 (S_gb106 C I w.2 g)
theorem S_gb37 {z : zT} : ∀ (q : Nat) (x1 x2 x3 x4 : Int32) (h : ph_H), CT z h → iv (-1) 3 x2 → iv 0 300 x3 → 300 - (h 0 11).toInt < (q : Int) → PX11_goByRecordc1_37 q x1 x2 x3 x4 h ∧ QCT z (-2147483648) 2147483647 (FX11_goByRecordc1_37 q x1 x2 x3 x4 h) := by
  intro q
  induction q with
  | zero =>
    intro x1 x2 x3 x4 h I f2 f3 mq
    have g : iv 0 300 (h 0 11) := CTv I 0 11
    unfold iv at g
    exfalso
    omega
  | succ q ih =>
    intro x1 x2 x3 x4 h I f2 f3 mq
    unfold PX11_goByRecordc1_37 FX11_goByRecordc1_37
    have g : iv 0 300 (h 0 11) := CTv I 0 11
    have I0 := I
    obtain ⟨z1, m, i⟩ := I0
    refine sf_if (fun _ => ?_) (fun c => ?_)
    · have w := SX3_whoGoes_oc1 (z := z1) 0 h i
      exact sf_n w.1 (sf_if (fun _ => ⟨trivial, QCT_mk (iv_any _) I⟩) (fun _ => ⟨trivial, QCT_mk (iv_any _) I⟩))
    · have g2 : iv 0 299 (h 0 11) := iv_lt g c rfl
      have C : ∀ y3 : Int32, iv 0 300 y3 → ∀ (x2 : Int32) (h' : ph_H), CT z h' → iv (-1) 3 x2 → (h' 0 11).toInt = (h 0 11).toInt + 1 → PX11_goByRecordc1_37 q x1 x2 y3 x4 h' ∧ QCT z (-2147483648) 2147483647 (FX11_goByRecordc1_37 q x1 x2 y3 x4 h') := fun y3 f y2 h' I' f' e => ih x1 y2 y3 x4 h' I' f' f (by omega)
      refine sf_if (fun _ => S_gb88 (C x3 f3) I f2 g2) (fun _ => sf_if (fun _ => S_gb88 (C x3 f3) I f2 g2) (fun c3 => ?_))
      have f4 : iv 0 299 x3 := iv_lt f3 c3 rfl
      have g46 : iv 0 3 (h 46 (x3.toNatClampNeg)) := CTv I 46 _
      have f5 : iv 0 300 (x3 + 1) := iv_w (iv_add (lo := 1) (hi := 300) f4 (iv_lit (lo := 1) (hi := 1) (x := 1) rfl) rfl) rfl
      exact sf_n (iv_in f4 rfl) (sf_if (fun _ => sf_n (iv_in f4 rfl) (S_gb88 (C (x3 + 1) f5) I (iv_w g46 rfl) g2)) (fun _ => S_gb88 (C x3 f3) I f2 g2))
theorem SX11_goByRecordc1_T {z : zT} (a0 : Int32) (h : ph_H) (I : CT z h) : PX11_goByRecordc1 a0 h ∧ QCT z (-2147483648) 2147483647 (FX11_goByRecordc1 a0 h) := by
  have T : ∀ v : Int32, PX11_goByRecordc1_30 a0 0 0 v h ∧ QCT z (-2147483648) 2147483647 (FX11_goByRecordc1_30 a0 0 0 v h) := fun v => by
    unfold PX11_goByRecordc1_30 FX11_goByRecordc1_30
    obtain ⟨z1, m, i⟩ := I
    have h0 : (0 : Int32).toInt = 0 := by decide
    refine S_gb37 2000 a0 0 0 v _ ⟨_, zmC_o m rfl rfl, ICg (k := 0) (i := 11) i (show iv 0 300 0 from ⟨by decide, by decide⟩) rfl⟩ ⟨by decide, by decide⟩ ⟨by decide, by decide⟩ ?_
    rw [hz_e, h0]
    decide
  unfold PX11_goByRecordc1 FX11_goByRecordc1
  refine sf_if (fun _ => T _) (fun c1 => sf_if (fun _ => T _) (fun c2 => sf_n ?_ (T _)))
  have f0 : iv 1 300 a0 := by
    have h0 : (0 : Int32).toInt = 0 := by decide
    have h3 : (300 : Int32).toInt = 300 := by decide
    rw [Int32.le_iff_toInt_le, h0] at c1
    rw [Int32.lt_iff_toInt_lt, h3] at c2
    unfold iv
    omega
  exact iv_in (iv_sub (lo := 0) (hi := 299) f0 (iv_lit (lo := 1) (hi := 1) (x := 1) rfl) rfl) rfl
theorem SX11_play_T {z : zT} (a0 a1 : Int32) (h : ph_H) (I : CT z h) : PX11_play a0 a1 h ∧ QCT z (-2147483648) 2147483647 (FX11_play a0 a1 h) := by
  have N : ∀ v : Int32, True ∧ QCT z (-2147483648) 2147483647 (v, h) := fun v => ⟨trivial, QCT_mk (iv_any _) I⟩
  unfold PX11_play FX11_play
  refine sf_if (fun _ => N _) (fun _ => sf_if (fun _ => N _) (fun _ => sf_if (fun _ => N _) (fun _ => sf_if (fun _ => N _) (fun _ => sf_if (fun _ => ?_) (fun _ => N _)))))
  obtain ⟨z1, m, i⟩ := I
  have b := SX3_begin_on (z := z1) a1 h i
  refine sf_n b.1 ?_
  have s := SX11_goByRecordc1_T (z := z) a0 _ ⟨z1, m, b.2⟩
  obtain ⟨z2, m2, i2⟩ := s.2.2
  unfold PX11_play_54 FX11_play_54
  exact sf_n s.1 ⟨trivial, QCT_mk (iv_any _) ⟨z2, m2, ICa 0 12 i2 rfl rfl⟩⟩
end MG_24_play
section MG_25_search
/-! find: the runs -/
def GT (z : zT) : Prop := ∀ w : Nat, w < 2 → (w : Int) < (z 52 6).toInt → 0 ≤ (z 55 w).toInt
def zs (z z' : zT) : Prop := ∀ k i, gc k i = true → ¬ (k = 52 ∧ i = 7) → ¬ k = 53 → z' k i = z k i
def GS (z : zT) (h : ph_H) : Prop := ∃ z', zs z z' ∧ IC z' h
theorem zs_GT {z z' : zT} (m : zs z z') (G : GT z) : GT z' := fun w hw hc => by
  rw [m 52 6 rfl (fun e => absurd e.2 (by decide)) (by decide)] at hc
  rw [m 55 w rfl (fun e => absurd e.1 (by decide)) (by decide)]
  exact G w hw hc
theorem zs_7 {z z' : zT} {v : Int32} (m : zs z z') : zs z (hs z' 52 7 v) := fun k i q a b => by
  rw [hs_o a]
  exact m k i q a b
theorem zs_53 {z z' : zT} {j : Nat} {v : Int32} (m : zs z z') : zs z (hs z' 53 j v) := fun k i q a b => by
  rw [hs_o (fun e => b e.1)]
  exact m k i q a b
theorem GSv {z : zT} {h : ph_H} (I : GS z h) (k i : Nat) : iv (tC k i).1 (tC k i).2 (h k i) := by
  obtain ⟨z', m, j⟩ := I
  exact ICv j k i
theorem S_ch {z : zT} {h : ph_H} (I : IC z h) (G : GT z) {x1 : Int32} (f1 : iv 0 3 x1) : ∀ (q : Nat) (x2 : Int32), iv 0 2 x2 → 2 - x2.toInt < (q : Int) → PX6_chosen_2 q x1 x2 h ∧ iv 0 3 (FX6_chosen_2 q x1 x2 h) := by
  intro q
  induction q with
  | zero =>
    intro x2 f mq
    exact mu_zu f mq rfl
  | succ q ih =>
    intro x2 f mq
    unfold PX6_chosen_2 FX6_chosen_2
    refine sf_if (fun _ => ⟨trivial, f1⟩) (fun c1 => sf_if (fun _ => ⟨trivial, f1⟩) (fun c2 => ?_))
    have f2 : iv 0 1 x2 := iv_lt f c2 rfl
    refine sf_n (iv_in f2 rfl) (sf_if (fun _ => sf_n (iv_in f2 rfl) ⟨trivial, ?_⟩) (fun _ => ih (x2 + 1) (iv_w (iv_add (lo := 1) (hi := 2) f2 (iv_lit (lo := 1) (hi := 1) (x := 1) rfl) rfl) rfl) (mu_up f2 mq rfl)))
    have g : iv (-1) 3 (h 55 (x2.toNatClampNeg)) := ICv I 55 _
    have e := ICz I 55 (x2.toNatClampNeg) rfl
    have e6 := ICz I 52 6 rfl
    have lt := nle c1
    rw [e6, Int32.lt_iff_toInt_lt] at lt
    have t : x2.toNatClampNeg = x2.toInt.toNat := rfl
    unfold iv at f2
    have w := G (x2.toNatClampNeg) (by omega) (by omega)
    rw [e] at g ⊢
    unfold iv at *
    omega
theorem IC57 {z : zT} {h : ph_H} {x1 : Int32} {i : Nat} {v : Int32} (I : IC z h) (q : vp_in x1 2) : IC z (hs h (57 + x1.toNatClampNeg) i v) := by
  rcases op_in q with e | e
  · rw [e]
    exact ICa 57 i I rfl rfl
  · rw [e]
    exact ICa 58 i I rfl rfl
theorem S_122 {z : zT} {h : ph_H} {x1 : Int32} (I : GS z h) (f1 : iv (-1) 1 x1) : PX6_goThrough_122 x1 h ∧ GS z (FX6_goThrough_122 x1 h) := by
  unfold PX6_goThrough_122 FX6_goThrough_122
  refine sf_if (fun _ => ⟨trivial, I⟩) (fun c => ?_)
  have f2 : iv 0 1 x1 := iv_nel (y := -1) f1 c rfl
  obtain ⟨z1, m, i⟩ := I
  have g : iv 0 300 (h 52 7) := ICv i 52 7
  exact sf_n (iv_in f2 rfl) ⟨trivial, _, zs_53 m, ICg (k := 53) i (show iv 0 300 _ from g) rfl⟩
theorem S_82 {z : zT} {L37 : Int32 → Int32 → ph_H → ph_H} {LP37 : Int32 → Int32 → ph_H → Prop} {h : ph_H} {x1 x2 : Int32} (C : ∀ (x2 : Int32) (h' : ph_H), GS z h' → iv (-1) 3 x2 → (h' 52 7).toInt = (h 52 7).toInt + 1 → LP37 x1 x2 h' ∧ GS z (L37 x1 x2 h')) (I : GS z h) (G : GT z) (f2 : iv 0 3 x2) (g : iv 0 299 (h 52 7)) : PX6_goThrough_82 LP37 x1 x2 h ∧ GS z (FX6_goThrough_82 L37 x1 x2 h) := by
  obtain ⟨z1, m, i⟩ := I
  have c := S_ch i (zs_GT m G) f2 2000 0 ⟨by decide, by decide⟩ (by decide)
  have s := SX3_go_oc1 (z := z1) (FX6_chosen x2 h) h i c.2
  have e : (FX3_go_oc1 (FX6_chosen x2 h) h).2 52 7 = h 52 7 := (ICz s.2.2 52 7 rfl).trans (ICz i 52 7 rfl).symm
  have I2 : IC z1 (hs (FX3_go_oc1 (FX6_chosen x2 h) h).2 52 8 (FX3_go_oc1 (FX6_chosen x2 h) h).1) := ICa 52 8 s.2.2 rfl rfl
  have w := SX3_whoGoes_oc1 (z := z1) (FX6_chosen x2 h) _ I2
  have g2 : iv 0 299 ((FX3_go_oc1 (FX6_chosen x2 h) h).2 52 7) := iv_r e g
  have f9 : iv 0 300 ((FX3_go_oc1 (FX6_chosen x2 h) h).2 52 7 + 1) := iv_w (iv_add (lo := 1) (hi := 300) g2 (iv_lit (lo := 1) (hi := 1) (x := 1) rfl) rfl) rfl
  unfold PX6_goThrough_82 FX6_goThrough_82
  refine sf_n (show PX6_chosen x2 h from c.1) (sf_n s.1 ?_)
  unfold PX6_goThrough_97 FX6_goThrough_97
  refine sf_n w.1 (C _ _ ⟨_, zs_7 m, ICg (k := 52) (i := 7) I2 (show iv 0 300 _ from f9) rfl⟩ w.2 ?_)
  rw [hz_e, ti_inc g2 rfl, e]
theorem S_37 {z : zT} (G : GT z) : ∀ (q : Nat) (x1 x2 : Int32) (h : ph_H), GS z h → iv (-1) 1 x1 → iv (-1) 3 x2 → 300 - (h 52 7).toInt < (q : Int) → PX6_goThrough_37 q x1 x2 h ∧ GS z (FX6_goThrough_37 q x1 x2 h) := by
  intro q
  induction q with
  | zero =>
    intro x1 x2 h I f1 f2 mq
    have g : iv 0 300 (h 52 7) := GSv I 52 7
    unfold iv at g
    exfalso
    omega
  | succ q ih =>
    intro x1 x2 h I f1 f2 mq
    unfold PX6_goThrough_37 FX6_goThrough_37
    have g : iv 0 300 (h 52 7) := GSv I 52 7
    have E := S_122 I f1
    refine sf_if (fun _ => E) (fun c1 => sf_if (fun _ => E) (fun c2 => sf_if (fun _ => ?_) (fun _ => E)))
    have g2 : iv 0 299 (h 52 7) := iv_lt g c1 rfl
    have f3 : iv 0 3 x2 := iv_ler f2 (iv_lit (lo := 0) (hi := 0) (x := 0) rfl) (nlt c2) rfl
    refine sf_if (fun _ => S_82 (fun y h' I' f' e => ih _ _ _ I' f1 f' (by omega)) I G f3 g2) (fun c4 => ?_)
    have f4 : iv 0 1 x1 := iv_nel (y := -1) f1 c4 rfl
    obtain ⟨z1, m, i⟩ := I
    have r := SX3_rivalsOf_oc1 (z := z1) x2 h i
    have i3 : IC z1 (hs h (57 + x1.toNatClampNeg) (h 52 7).toNatClampNeg (FX3_rivalsOf_oc1 x2 h)) := IC57 i (iv_in f4 rfl)
    have e7 : hs h (57 + x1.toNatClampNeg) (h 52 7).toNatClampNeg (FX3_rivalsOf_oc1 x2 h) 52 7 = h 52 7 := (ICz i3 52 7 rfl).trans (ICz i 52 7 rfl).symm
    refine sf_n (iv_in f4 rfl) (sf_n r.1 (sf_n (iv_in g2 rfl) (S_82 (fun y h' I' f' e => ih _ _ _ I' f1 f' ?_) ⟨z1, m, i3⟩ G f3 (iv_r e7 g2))))
    rw [e7] at e
    omega
theorem S_gt {z : zT} {a0 : Int32} {h : ph_H} (I : GS z h) (G : GT z) (f : iv (-1) 1 a0) : PX6_goThrough a0 h ∧ GS z (FX6_goThrough a0 h) := by
  obtain ⟨z1, m, i⟩ := I
  have b := SX3_begin_on (z := z1) (h 1 6) h i
  have w := SX3_whoGoes_oc1 (z := z1) 0 _ b.2
  have h0 : (0 : Int32).toInt = 0 := by decide
  unfold PX6_goThrough FX6_goThrough
  refine sf_n b.1 ?_
  unfold PX6_goThrough_18 FX6_goThrough_18
  refine sf_n w.1 (S_37 G 2000 a0 _ _ ⟨_, zs_7 m, ICg (k := 52) (i := 7) (ICa 52 8 b.2 rfl rfl) (show iv 0 300 0 from ⟨by decide, by decide⟩) rfl⟩ f w.2 ?_)
  rw [hz_e, h0]
  decide
theorem S_122c1 {z : zT} {h : ph_H} {x1 : Int32} (I : GS z h) (f1 : iv (-1) 1 x1) : PX6_goThroughc1_122 x1 h ∧ GS z (FX6_goThroughc1_122 x1 h) := by
  unfold PX6_goThroughc1_122 FX6_goThroughc1_122
  refine sf_if (fun _ => ⟨trivial, I⟩) (fun c => ?_)
  have f2 : iv 0 1 x1 := iv_nel (y := -1) f1 c rfl
  obtain ⟨z1, m, i⟩ := I
  have g : iv 0 300 (h 52 7) := ICv i 52 7
  exact sf_n (iv_in f2 rfl) ⟨trivial, _, zs_53 m, ICg (k := 53) i (show iv 0 300 _ from g) rfl⟩
theorem S_82c1 {z : zT} {L37 : Int32 → Int32 → ph_H → ph_H} {LP37 : Int32 → Int32 → ph_H → Prop} {h : ph_H} {x1 x2 : Int32} (C : ∀ (x2 : Int32) (h' : ph_H), GS z h' → iv (-1) 3 x2 → (h' 52 7).toInt = (h 52 7).toInt + 1 → LP37 x1 x2 h' ∧ GS z (L37 x1 x2 h')) (I : GS z h) (G : GT z) (f2 : iv 0 3 x2) (g : iv 0 299 (h 52 7)) : PX6_goThroughc1_82 LP37 x1 x2 h ∧ GS z (FX6_goThroughc1_82 L37 x1 x2 h) := by
  obtain ⟨z1, m, i⟩ := I
  have c := S_ch i (zs_GT m G) f2 2000 0 ⟨by decide, by decide⟩ (by decide)
  have s := SX3_go_oc1 (z := z1) (FX6_chosen x2 h) h i c.2
  have e : (FX3_go_oc1 (FX6_chosen x2 h) h).2 52 7 = h 52 7 := (ICz s.2.2 52 7 rfl).trans (ICz i 52 7 rfl).symm
  have I2 : IC z1 (hs (FX3_go_oc1 (FX6_chosen x2 h) h).2 52 8 (FX3_go_oc1 (FX6_chosen x2 h) h).1) := ICa 52 8 s.2.2 rfl rfl
  have w := SX3_whoGoes_oc1 (z := z1) (FX6_chosen x2 h) _ I2
  have g2 : iv 0 299 ((FX3_go_oc1 (FX6_chosen x2 h) h).2 52 7) := iv_r e g
  have f9 : iv 0 300 ((FX3_go_oc1 (FX6_chosen x2 h) h).2 52 7 + 1) := iv_w (iv_add (lo := 1) (hi := 300) g2 (iv_lit (lo := 1) (hi := 1) (x := 1) rfl) rfl) rfl
  unfold PX6_goThroughc1_82 FX6_goThroughc1_82
  refine sf_n (show PX6_chosen x2 h from c.1) (sf_n s.1 ?_)
  unfold PX6_goThroughc1_97 FX6_goThroughc1_97
  refine sf_n w.1 (C _ _ ⟨_, zs_7 m, ICg (k := 52) (i := 7) I2 (show iv 0 300 _ from f9) rfl⟩ w.2 ?_)
  rw [hz_e, ti_inc g2 rfl, e]
theorem S_37c1 {z : zT} (G : GT z) : ∀ (q : Nat) (x1 x2 : Int32) (h : ph_H), GS z h → iv (-1) 1 x1 → iv (-1) 3 x2 → 300 - (h 52 7).toInt < (q : Int) → PX6_goThroughc1_37 q x1 x2 h ∧ GS z (FX6_goThroughc1_37 q x1 x2 h) := by
  intro q
  induction q with
  | zero =>
    intro x1 x2 h I f1 f2 mq
    have g : iv 0 300 (h 52 7) := GSv I 52 7
    unfold iv at g
    exfalso
    omega
  | succ q ih =>
    intro x1 x2 h I f1 f2 mq
    unfold PX6_goThroughc1_37 FX6_goThroughc1_37
    have g : iv 0 300 (h 52 7) := GSv I 52 7
    have E := S_122c1 I f1
    refine sf_if (fun _ => E) (fun c1 => sf_if (fun _ => E) (fun c2 => sf_if (fun _ => ?_) (fun _ => E)))
    have g2 : iv 0 299 (h 52 7) := iv_lt g c1 rfl
    have f3 : iv 0 3 x2 := iv_ler f2 (iv_lit (lo := 0) (hi := 0) (x := 0) rfl) (nlt c2) rfl
    refine sf_if (fun _ => S_82c1 (fun y h' I' f' e => ih _ _ _ I' f1 f' (by omega)) I G f3 g2) (fun c4 => ?_)
    have f4 : iv 0 1 x1 := iv_nel (y := -1) f1 c4 rfl
    obtain ⟨z1, m, i⟩ := I
    have r := SX3_rivalsOf_oc1 (z := z1) x2 h i
    have i3 : IC z1 (hs h (57 + x1.toNatClampNeg) (h 52 7).toNatClampNeg (FX3_rivalsOf_oc1 x2 h)) := IC57 i (iv_in f4 rfl)
    have e7 : hs h (57 + x1.toNatClampNeg) (h 52 7).toNatClampNeg (FX3_rivalsOf_oc1 x2 h) 52 7 = h 52 7 := (ICz i3 52 7 rfl).trans (ICz i 52 7 rfl).symm
    refine sf_n (iv_in f4 rfl) (sf_n r.1 (sf_n (iv_in g2 rfl) (S_82c1 (fun y h' I' f' e => ih _ _ _ I' f1 f' ?_) ⟨z1, m, i3⟩ G f3 (iv_r e7 g2))))
    rw [e7] at e
    omega
theorem S_gtc1 {z : zT} {a0 : Int32} {h : ph_H} (I : GS z h) (G : GT z) (f : iv (-1) 1 a0) : PX6_goThroughc1 a0 h ∧ GS z (FX6_goThroughc1 a0 h) := by
  obtain ⟨z1, m, i⟩ := I
  have b := SX3_begin_onc1 (z := z1) (h 1 6) h i
  have w := SX3_whoGoes_oc1 (z := z1) 0 _ b.2
  have h0 : (0 : Int32).toInt = 0 := by decide
  unfold PX6_goThroughc1 FX6_goThroughc1
  refine sf_n b.1 ?_
  unfold PX6_goThroughc1_18 FX6_goThroughc1_18
  refine sf_n w.1 (S_37c1 G 2000 a0 _ _ ⟨_, zs_7 m, ICg (k := 52) (i := 7) (ICa 52 8 b.2 rfl rfl) (show iv 0 300 0 from ⟨by decide, by decide⟩) rfl⟩ f w.2 ?_)
  rw [hz_e, h0]
  decide
end MG_25_search
section MG_26_find
/-! find: where CHANGES are put -/
def Mo (z : zT) (w : Nat) (o : Int32 × ph_H) : Prop := (o.1 = 0 ∧ IC z o.2) ∨ (o.1 = 1 ∧ ∃ k t : Int32, iv 0 299 k ∧ iv 0 3 t ∧ k.toInt < (z 53 w).toInt ∧ IC (hs (hs z 54 w k) 55 w t) o.2)
theorem Mo_0 {z : zT} {w : Nat} {h : ph_H} (I : IC z h) : Mo z w ((0 : Int32), h) := Or.inl ⟨rfl, I⟩
theorem S_mo29 {z : zT} {w : Nat} {h : ph_H} {x1 x3 : Int32} {L16 : Int32 → Int32 → Int32 → ph_H → Int32 × ph_H} {LP16 : Int32 → Int32 → Int32 → ph_H → Prop} (hw : x1.toNatClampNeg = w) (I : IC z h) (f1 : iv 0 1 x1) (f3 : iv 0 299 x3) (lt : x3.toInt < (z 53 w).toInt) (hL : LP16 x1 0 (x3 + 1) h ∧ Mo z w (L16 x1 0 (x3 + 1) h)) : ∀ (q : Nat) (x4 : Int32), iv 0 4 x4 → 4 - x4.toInt < (q : Int) → PX6_moveOn_29 LP16 q x1 x3 x4 h ∧ Mo z w (FX6_moveOn_29 L16 q x1 x3 x4 h) := by
  intro q
  induction q with
  | zero =>
    intro x4 f mq
    exact mu_zu f mq rfl
  | succ q ih =>
    intro x4 f mq
    unfold PX6_moveOn_29 FX6_moveOn_29
    refine sf_if (fun _ => hL) (fun c => ?_)
    have f4 : iv 0 3 x4 := iv_lt f c rfl
    refine sf_n (iv_in f1 rfl) (sf_n (iv_in f3 rfl) (sf_if (fun _ => ih _ (iv_w (iv_add (lo := 1) (hi := 4) f4 (iv_lit (lo := 1) (hi := 1) (x := 1) rfl) rfl) rfl) (mu_up f4 mq rfl)) (fun _ => sf_n (iv_in f1 rfl) (sf_n (iv_in f1 rfl) ⟨trivial, Or.inr ⟨rfl, x3, x4, f3, f4, lt, ?_⟩⟩))))
    rw [← hw]
    exact ICg (k := 55) (ICg (k := 54) I (show iv 0 301 x3 from iv_w f3 rfl) rfl) (show iv (-1) 3 x4 from iv_w f4 rfl) rfl
theorem S_mo16 {z : zT} {w : Nat} {h : ph_H} {x1 : Int32} (hw : x1.toNatClampNeg = w) (I : IC z h) (f1 : iv 0 1 x1) : ∀ (q : Nat) (x2 x3 : Int32), iv 0 4 x2 → iv 0 301 x3 → 301 - x3.toInt < (q : Int) → PX6_moveOn_16 q x1 x2 x3 h ∧ Mo z w (FX6_moveOn_16 q x1 x2 x3 h) := by
  intro q
  induction q with
  | zero =>
    intro x2 x3 f2 f3 mq
    exact mu_zu f3 mq rfl
  | succ q ih =>
    intro x2 x3 f2 f3 mq
    unfold PX6_moveOn_16 FX6_moveOn_16
    have g : iv 0 300 (h 53 (x1.toNatClampNeg)) := ICv I 53 _
    refine sf_n (iv_in f1 rfl) (sf_if (fun _ => ⟨trivial, Mo_0 I⟩) (fun c => ?_))
    have f4 : iv 0 299 x3 := iv_ltl f3 g (nle c) rfl
    have e := ICz I 53 (x1.toNatClampNeg) rfl
    have lt := nle c
    rw [e, Int32.lt_iff_toInt_lt, hw] at lt
    exact S_mo29 hw I f1 f4 lt (ih 0 (x3 + 1) ⟨by decide, by decide⟩ (iv_w (iv_add (lo := 1) (hi := 300) f4 (iv_lit (lo := 1) (hi := 1) (x := 1) rfl) rfl) rfl) (mu_up f4 mq rfl)) 2000 x2 f2 (mu_0u f2 rfl)
theorem S_mo {z : zT} {w : Nat} {h : ph_H} {a0 : Int32} (hw : a0.toNatClampNeg = w) (I : IC z h) (f : iv 0 1 a0) : PX6_moveOn a0 h ∧ Mo z w (FX6_moveOn a0 h) := by
  have g5 : iv (-1) 3 (h 55 (a0.toNatClampNeg)) := ICv I 55 _
  have g4 : iv 0 301 (h 54 (a0.toNatClampNeg)) := ICv I 54 _
  unfold PX6_moveOn FX6_moveOn
  exact sf_n (iv_in f rfl) (sf_n (iv_in f rfl) (S_mo16 hw I f 2000 _ _ (iv_add g5 (iv_lit (lo := 1) (hi := 1) (x := 1) rfl) rfl) g4 (mu_0u g4 rfl)))
theorem S_pa {z : zT} {w : Nat} {h : ph_H} {a0 a1 : Int32} (hw : a0.toNatClampNeg = w) (I : IC z h) (f : iv 0 1 a0) (f1 : iv 0 301 a1) : PX6_putAhead a0 a1 h ∧ IC (hs (hs z 54 w a1) 55 w (-1)) (FX6_putAhead a0 a1 h) := by
  rw [← hw]
  exact ⟨⟨iv_in f rfl, iv_in f rfl, trivial⟩, ICg (k := 55) (ICg (k := 54) I (show iv 0 301 a1 from f1) rfl) (show iv (-1) 3 (-1) from ⟨by decide, by decide⟩) rfl⟩
def Jz (z : zT) : Prop := 0 ≤ (z 55 0).toInt ∨ z 53 1 = 0
def PU (Z : zT) (c md : Int32) (h : ph_H) : Prop := ∃ z1, zmC Z z1 ∧ IC z1 h ∧ Jz z1 ∧ z1 52 6 = c ∧ z1 52 9 = md
def PQ (Z : zT) (c md : Int32) (o : Int32 × ph_H) : Prop := iv 0 1 o.1 ∧ ∃ z1, zmC Z z1 ∧ IC z1 o.2 ∧ Jz z1 ∧ z1 52 6 = c ∧ z1 52 9 = md ∧ (¬ o.1 = 0 → GT z1)
theorem PQ_mk {Z : zT} {c md x : Int32} {h : ph_H} (f : iv 0 1 x) (q : ∃ z1, zmC Z z1 ∧ IC z1 h ∧ Jz z1 ∧ z1 52 6 = c ∧ z1 52 9 = md ∧ (¬ x = 0 → GT z1)) : PQ Z c md (x, h) := ⟨f, q⟩
theorem zs_m {Z z z' : zT} (m : zmC Z z) (s : zs z z') : zmC Z z' := ⟨fun i => (s 2 i rfl (fun e => absurd e.1 (by decide)) (by decide)).trans (m.1 i), (s 1 6 rfl (fun e => absurd e.1 (by decide)) (by decide)).trans m.2.1, (s 1 7 rfl (fun e => absurd e.1 (by decide)) (by decide)).trans m.2.2⟩
theorem ti_lit0 : (0 : Int32).toInt = 0 := by decide
/-- one CHANGE is put: what follows for the next run -/
theorem S_pc16 {Z : zT} {md : Int32} : ∀ (q : Nat) (x1 : Int32) (h : ph_H), PU Z 2 md h → iv 0 1200 x1 → 1200 - x1.toInt < (q : Int) → PX6_putChangesc1_16 q x1 h ∧ PQ Z 2 md (FX6_putChangesc1_16 q x1 h) := by
  intro q
  induction q with
  | zero =>
    intro x1 h I f mq
    exact mu_zu f mq rfl
  | succ q ih =>
    intro x1 h I f mq
    unfold PX6_putChangesc1_16 FX6_putChangesc1_16
    obtain ⟨z1, m, i, j, c6, c9⟩ := I
    refine sf_if (fun _ => ⟨trivial, PQ_mk iv_00 ⟨z1, m, i, j, c6, c9, fun n => absurd rfl n⟩⟩) (fun c => ?_)
    have f2 : iv 0 1199 x1 := iv_lt f c rfl
    have s1 := S_mo (w := 1) (a0 := 1) (by decide) i ⟨by decide, by decide⟩
    refine sf_n s1.1 ?_
    unfold PX6_putChangesc1_28 FX6_putChangesc1_28
    have t2 : (2 : Int32).toInt = 2 := by decide
    rcases s1.2 with ⟨r1, i1⟩ | ⟨r1, k, t, fk, ft, lt, i1⟩
    · refine sf_if (fun _ => ?_) (fun n => absurd r1 n)
      have s0 := S_mo (w := 0) (a0 := 0) (by decide) i1 ⟨by decide, by decide⟩
      refine sf_n s0.1 ?_
      unfold PX6_putChangesc1_38 FX6_putChangesc1_38
      rcases s0.2 with ⟨r0, i0⟩ | ⟨r0, k, t, fk, ft, lt, i0⟩
      · exact sf_if (fun _ => ⟨trivial, PQ_mk iv_00 ⟨z1, m, i0, j, c6, c9, fun n => absurd rfl n⟩⟩) (fun n => absurd r0 n)
      · refine sf_if (fun n => absurd (n.symm.trans r0) (by decide)) (fun _ => ?_)
        have i3 : IC (hs (hs (hs z1 54 0 k) 55 0 t) 52 6 1) (hs (FX6_moveOn 0 (FX6_moveOn 1 h).2).2 52 6 1) := ICg (k := 52) (i := 6) i0 (show iv 0 2 1 from ⟨by decide, by decide⟩) rfl
        have e55 : hs (hs (hs z1 54 0 k) 55 0 t) 52 6 1 55 0 = t := (hz_k rfl).trans hz_e
        have G3 : GT (hs (hs (hs z1 54 0 k) 55 0 t) 52 6 1) := fun w hw hc => by
          rw [hz_e] at hc
          have o1 : (1 : Int32).toInt = 1 := by decide
          have w0 : w = 0 := by omega
          subst w0
          rw [e55]
          exact ft.1
        have g := S_gtc1 (a0 := 1) ⟨_, fun _ _ _ _ _ => rfl, i3⟩ G3 ⟨by decide, by decide⟩
        refine sf_n g.1 ?_
        obtain ⟨z4, s4, i4⟩ := g.2
        have m4 : zmC Z z4 := zs_m (zmC_o (zmC_o (zmC_o m rfl rfl) rfl rfl) rfl rfl) s4
        have e54 : z4 54 0 = k := (s4 54 0 rfl (fun e => absurd e.1 (by decide)) (by decide)).trans ((hz_k rfl).trans ((hz_k rfl).trans hz_e))
        have e550 : z4 55 0 = t := (s4 55 0 rfl (fun e => absurd e.1 (by decide)) (by decide)).trans e55
        have e9 : z4 52 9 = md := (s4 52 9 rfl (fun e => absurd e.2 (by decide)) (by decide)).trans ((hz_i rfl).trans ((hz_k rfl).trans ((hz_k rfl).trans c9)))
        have n0 : (0 : Int32).toNatClampNeg = 0 := by decide
        have ek : FX6_goThroughc1 1 (hs (FX6_moveOn 0 (FX6_moveOn 1 h).2).2 52 6 1) 54 ((0 : Int32).toNatClampNeg) = k := by
          rw [n0]
          exact (ICz i4 54 0 rfl).trans e54
        have i5 : IC (hs z4 52 6 2) (hs (FX6_goThroughc1 1 (hs (FX6_moveOn 0 (FX6_moveOn 1 h).2).2 52 6 1)) 52 6 2) := ICg (k := 52) (i := 6) i4 (show iv 0 2 2 from ⟨by decide, by decide⟩) rfl
        have fa : iv 0 301 (FX6_goThroughc1 1 (hs (FX6_moveOn 0 (FX6_moveOn 1 h).2).2 52 6 1) 54 ((0 : Int32).toNatClampNeg) + 1) := by
          rw [ek]
          exact iv_w (iv_add (lo := 1) (hi := 300) fk (iv_lit (lo := 1) (hi := 1) (x := 1) rfl) rfl) rfl
        have p := S_pa (w := 1) (a0 := 1) (by decide) i5 ⟨by decide, by decide⟩ fa
        unfold PX6_putChangesc1_53 FX6_putChangesc1_53
        refine sf_n (iv_in (iv_lit (lo := 0) (hi := 0) (x := 0) rfl) rfl) (sf_n p.1 ?_)
        unfold PX6_putChangesc1_71 FX6_putChangesc1_71
        refine ih _ _ ⟨_, zmC_o (zmC_o (zmC_o m4 rfl rfl) rfl rfl) rfl rfl, p.2, Or.inl ?_, ?_, ?_⟩ (iv_w (iv_add (lo := 1) (hi := 1200) f2 (iv_lit (lo := 1) (hi := 1) (x := 1) rfl) rfl) rfl) (mu_up f2 mq rfl)
        · rw [hz_i rfl, hz_k rfl, hz_k rfl, e550]
          exact ft.1
        · rw [hz_k rfl, hz_k rfl, hz_e]
        · rw [hz_k rfl, hz_k rfl, hz_i rfl]
          exact e9
    · refine sf_if (fun n => absurd (n.symm.trans r1) (by decide)) (fun _ => ⟨trivial, PQ_mk iv_01 ⟨_, zmC_o (zmC_o m rfl rfl) rfl rfl, i1, ?_, ?_, ?_, fun _ => fun w hw hc => ?_⟩⟩)
      · unfold Jz
        rw [hz_i rfl, hz_k rfl, hz_k rfl, hz_k rfl]
        exact j
      · rw [hz_k rfl, hz_k rfl]
        exact c6
      · rw [hz_k rfl, hz_k rfl]
        exact c9
      · have cs : w = 0 ∨ w = 1 := by omega
        rcases cs with e | e
        · subst e
          rw [hz_i rfl, hz_k rfl]
          rcases j with j | j
          · exact j
          · rw [j, ti_lit0] at lt
            unfold iv at fk
            omega
        · subst e
          rw [hz_e]
          exact ft.1
theorem S_pc {Z : zT} {c md : Int32} {h : ph_H} (I : PU Z c md h) (hc : c = 1 ∨ c = 2) : PX6_putChangesc1 h ∧ PQ Z c md (FX6_putChangesc1 h) := by
  have I0 := I
  obtain ⟨z1, m, i, j, c6, c9⟩ := I0
  have e6 : h 52 6 = c := (ICz i 52 6 rfl).trans c6
  unfold PX6_putChangesc1 FX6_putChangesc1
  refine sf_if (fun e => ?_) (fun n => ?_)
  · have s0 := S_mo (w := 0) (a0 := 0) (by decide) i ⟨by decide, by decide⟩
    have o1 : (1 : Int32).toInt = 1 := by decide
    rcases s0.2 with ⟨r0, i0⟩ | ⟨r0, k, t, fk, ft, lt, i0⟩
    · have fb : iv 0 1 (FX6_moveOn 0 h).1 := iv_r r0 iv_00
      exact sf_n s0.1 (sf_n (iv_bo fb) ⟨trivial, PQ_mk fb ⟨z1, m, i0, j, c6, c9, fun n => absurd r0 n⟩⟩)
    · have fb : iv 0 1 (FX6_moveOn 0 h).1 := iv_r r0 iv_01
      refine sf_n s0.1 (sf_n (iv_bo fb) ⟨trivial, PQ_mk fb ⟨_, zmC_o (zmC_o m rfl rfl) rfl rfl, i0, Or.inl ?_, ?_, ?_, fun _ => fun w hw hl => ?_⟩⟩)
      · rw [hz_e]
        exact ft.1
      · rw [hz_k rfl, hz_k rfl]
        exact c6
      · rw [hz_k rfl, hz_k rfl]
        exact c9
      · rw [hz_k rfl, hz_k rfl, c6, ← e6, e, o1] at hl
        have w0 : w = 0 := by omega
        subst w0
        rw [hz_e]
        exact ft.1
  · have c2 : c = 2 := by
      rcases hc with q | q
      · exact absurd (e6.trans q) n
      · exact q
    subst c2
    exact S_pc16 2000 0 h I ⟨by decide, by decide⟩ (by decide)
end MG_26_find
section MG_27_look
/-! find: its runs one after another -/
theorem S_lk93 {Z : zT} {h : ph_H} (I : CT Z h) : PX6_look_93 h ∧ QCT Z (-2147483648) 2147483647 (FX6_look_93 h) := by
  obtain ⟨z1, m, i⟩ := I
  have T : ∀ s0 : Int32, iv 0 1 s0 → PX6_look_106 s0 h ∧ QCT Z (-2147483648) 2147483647 (FX6_look_106 s0 h) := fun s0 f => by
    unfold PX6_look_106 FX6_look_106
    have I2 : CT Z (hs h 52 10 s0) := ⟨z1, m, ICs (k := 52) (i := 10) i (show iv 0 1 s0 from f) rfl⟩
    exact sf_n (iv_bo f) (sf_if (fun _ => ⟨trivial, QCT_mk (iv_any _) I2⟩) (fun _ => ⟨trivial, QCT_mk (iv_any _) I2⟩))
  unfold PX6_look_93 FX6_look_93
  exact sf_if (fun _ => T 0 iv_00) (fun _ => T 1 iv_01)
theorem S_lk47 {Z : zT} {x1 x2 x3 : Int32} {L17 : Int32 → Int32 → Int32 → ph_H → Int32 × ph_H} {LP17 : Int32 → Int32 → Int32 → ph_H → Prop} (hL : ∀ h, CT Z h → LP17 x1 x2 (x3 + 1) h ∧ QCT Z (-2147483648) 2147483647 (L17 x1 x2 (x3 + 1) h)) (hc : x3 = 1 ∨ x3 = 2) (f2 : iv 1 100 x2) : ∀ (q : Nat) (h : ph_H), (∃ md, PU Z x3 md h) → 101 - (h 52 9).toInt < (q : Int) → PX6_look_47 LP17 q x1 x2 x3 h ∧ QCT Z (-2147483648) 2147483647 (FX6_look_47 L17 q x1 x2 x3 h) := by
  intro q
  induction q with
  | zero =>
    intro h I mq
    obtain ⟨md, z1, m, i, _⟩ := I
    have g : iv 0 100 (h 52 9) := ICv i 52 9
    unfold iv at g
    exfalso
    omega
  | succ q ih =>
    intro h I mq
    obtain ⟨md, I1⟩ := I
    have I0 := I1
    obtain ⟨z0, m0, i0, j0, c60, c90⟩ := I0
    have g : iv 0 100 (h 52 9) := ICv i0 52 9
    unfold PX6_look_47 FX6_look_47
    refine sf_if (fun _ => hL h ⟨z0, m0, i0⟩) (fun c => sf_if (fun _ => ?_) (fun _ => hL h ⟨z0, m0, i0⟩))
    have s := S_pc I1 hc
    refine sf_n s.1 ?_
    obtain ⟨fb, z1, m, i, j, c6, c9, G⟩ := s.2
    unfold PX6_look_66 FX6_look_66
    refine sf_if (fun _ => hL _ ⟨z1, m, i⟩) (fun n => ?_)
    have G1 := G n
    have e9 : (FX6_putChangesc1 h).2 52 9 = h 52 9 := (ICz i 52 9 rfl).trans (c9.trans (c90.symm.trans (ICz i0 52 9 rfl).symm))
    have g2 : iv 0 99 (h 52 9) := iv_ltl g f2 (nle c) rfl
    have g3 : iv 0 99 ((FX6_putChangesc1 h).2 52 9) := iv_r e9 g2
    have f9 : iv 0 100 ((FX6_putChangesc1 h).2 52 9 + 1) := iv_w (iv_add (lo := 1) (hi := 100) g3 (iv_lit (lo := 1) (hi := 1) (x := 1) rfl) rfl) rfl
    have i3 : IC (hs z1 52 9 ((FX6_putChangesc1 h).2 52 9 + 1)) (hs (FX6_putChangesc1 h).2 52 9 ((FX6_putChangesc1 h).2 52 9 + 1)) := ICg (k := 52) (i := 9) i (show iv 0 100 _ from f9) rfl
    have G3 : GT (hs z1 52 9 ((FX6_putChangesc1 h).2 52 9 + 1)) := fun w hw hl => by
      rw [hz_i rfl] at hl
      rw [hz_k rfl]
      exact G1 w hw hl
    have t := S_gtc1 (a0 := -1) ⟨_, fun _ _ _ _ _ => rfl, i3⟩ G3 ⟨by decide, by decide⟩
    refine sf_n t.1 ?_
    obtain ⟨z4, s4, i4⟩ := t.2
    have q9 : z4 52 9 = (FX6_putChangesc1 h).2 52 9 + 1 := (s4 52 9 rfl (fun e => absurd e.2 (by decide)) (by decide)).trans hz_e
    have q6 : z4 52 6 = x3 := (s4 52 6 rfl (fun e => absurd e.2 (by decide)) (by decide)).trans ((hz_i rfl).trans c6)
    have q5 : z4 55 0 = z1 55 0 := (s4 55 0 rfl (fun e => absurd e.1 (by decide)) (by decide)).trans (hz_k rfl)
    refine ih _ ⟨_, z4, zs_m (zmC_o m rfl rfl) s4, i4, Or.inl ?_, q6, rfl⟩ ?_
    · rw [q5]
      refine G1 0 (by decide) ?_
      rw [c6]
      rcases hc with e | e <;> (rw [e]; decide)
    · rw [ICz i4 52 9 rfl, q9, ti_inc g3 rfl, e9]
      omega
theorem S_lk17 {Z : zT} {x1 x2 : Int32} (f1 : iv 0 2 x1) (f2 : iv 1 100 x2) : ∀ (q : Nat) (x3 : Int32) (h : ph_H), CT Z h → iv 1 3 x3 → 3 - x3.toInt < (q : Int) → PX6_look_17 q x1 x2 x3 h ∧ QCT Z (-2147483648) 2147483647 (FX6_look_17 q x1 x2 x3 h) := by
  intro q
  induction q with
  | zero =>
    intro x3 h I f mq
    exact mu_zu f mq rfl
  | succ q ih =>
    intro x3 h I f mq
    unfold PX6_look_17 FX6_look_17
    refine sf_if (fun _ => S_lk93 I) (fun c => sf_if (fun _ => ?_) (fun _ => S_lk93 I))
    have f3 : iv 1 2 x3 := iv_lel f f1 (nlt c) rfl
    have hc : x3 = 1 ∨ x3 = 2 := by
      have o1 : (1 : Int32).toInt = 1 := by decide
      have o2 : (2 : Int32).toInt = 2 := by decide
      unfold iv at f3
      rcases (show x3.toInt = 1 ∨ x3.toInt = 2 by omega) with e | e
      · exact Or.inl (Int32.toInt_inj.mp (e.trans o1.symm))
      · exact Or.inr (Int32.toInt_inj.mp (e.trans o2.symm))
    obtain ⟨z1, m, i⟩ := I
    have i2 : IC (hs z1 52 6 x3) (hs h 52 6 x3) := ICg (k := 52) (i := 6) i (show iv 0 2 x3 from iv_w f3 rfl) rfl
    have p := S_pa (w := 0) (a0 := 0) (a1 := 1) (by decide) i2 ⟨by decide, by decide⟩ ⟨by decide, by decide⟩
    refine sf_n p.1 ?_
    unfold PX6_look_40 FX6_look_40
    have n1 : (1 : Int32).toNatClampNeg = 1 := by decide
    have i4 : IC (hs (hs (hs (hs z1 52 6 x3) 54 0 1) 55 0 (-1)) 53 1 0) (hs (FX6_putAhead 0 1 (hs h 52 6 x3)) 53 ((1 : Int32).toNatClampNeg) 0) := by
      rw [n1]
      exact ICg (k := 53) (i := 1) p.2 (show iv 0 300 0 from ⟨by decide, by decide⟩) rfl
    have g : iv 0 100 (hs (FX6_putAhead 0 1 (hs h 52 6 x3)) 53 ((1 : Int32).toNatClampNeg) 0 52 9) := ICv i4 52 9
    refine sf_n (iv_in (iv_lit (lo := 1) (hi := 1) (x := 1) rfl) rfl) (S_lk47 (fun h' I' => ih _ _ I' (iv_w (iv_add (lo := 2) (hi := 3) f3 (iv_lit (lo := 1) (hi := 1) (x := 1) rfl) rfl) rfl) (mu_up f3 mq rfl)) hc f2 2000 _ ⟨_, _, zmC_o (zmC_o (zmC_o (zmC_o m rfl rfl) rfl rfl) rfl rfl) rfl rfl, i4, Or.inr hz_e, ?_, rfl⟩ ?_)
    · rw [hz_k rfl, hz_k rfl, hz_k rfl, hz_e]
    · unfold iv at g
      omega
theorem S_look {Z : zT} {a0 a1 : Int32} {h : ph_H} (I : CT Z h) (f0 : iv 0 2 a0) (f1 : iv 1 100 a1) : PX6_look a0 a1 h ∧ QCT Z (-2147483648) 2147483647 (FX6_look a0 a1 h) := by
  obtain ⟨z1, m, i⟩ := I
  have i3 : IC (hs (hs z1 52 6 0) 52 9 1) (hs (hs h 52 6 0) 52 9 1) := ICg (k := 52) (i := 9) (ICg (k := 52) (i := 6) i (show iv 0 2 0 from ⟨by decide, by decide⟩) rfl) (show iv 0 100 1 from ⟨by decide, by decide⟩) rfl
  have e6 : hs (hs z1 52 6 0) 52 9 1 52 6 = 0 := (hz_i rfl).trans hz_e
  have G3 : GT (hs (hs z1 52 6 0) 52 9 1) := fun w hw hl => by
    rw [e6, ti_lit0] at hl
    omega
  have t := S_gt (a0 := 0) ⟨_, fun _ _ _ _ _ => rfl, i3⟩ G3 ⟨by decide, by decide⟩
  unfold PX6_look FX6_look
  refine sf_n t.1 ?_
  obtain ⟨z4, s4, i4⟩ := t.2
  unfold PX6_look_15 FX6_look_15
  exact S_lk17 f0 f1 2000 1 _ ⟨z4, zs_m (zmC_o (zmC_o m rfl rfl) rfl rfl) s4, i4⟩ ⟨by decide, by decide⟩ (by decide)
theorem SX11_find_T {z : zT} (a0 a1 : Int32) (h : ph_H) (I : CT z h) : PX11_find a0 a1 h ∧ QCT z (-2147483648) 2147483647 (FX11_find a0 a1 h) := by
  have N : ∀ v : Int32, True ∧ QCT z (-2147483648) 2147483647 (v, h) := fun v => ⟨trivial, QCT_mk (iv_any _) I⟩
  unfold PX11_find FX11_find
  refine sf_if (fun _ => N _) (fun c1 => sf_if (fun _ => N _) (fun c2 => sf_if (fun _ => N _) (fun c3 => sf_if (fun c4 => ?_) (fun _ => N _))))
  have o1 : (1 : Int32).toInt = 1 := by decide
  have o2 : (2 : Int32).toInt = 2 := by decide
  have o100 : (100 : Int32).toInt = 100 := by decide
  rw [Int32.lt_iff_toInt_lt] at c1 c2 c3
  rw [Int32.le_iff_toInt_le] at c4
  rw [ti_lit0] at c1
  rw [o2] at c2
  rw [o1] at c3
  rw [o100] at c4
  have s := S_look (a0 := a0) (a1 := a1) I ⟨by omega, by omega⟩ ⟨by omega, c4⟩
  exact sf_n s.1 ⟨trivial, QCT_mk s.2.1 s.2.2⟩
end MG_27_look
