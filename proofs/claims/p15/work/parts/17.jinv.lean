/-! THE INVARIANT of the class -/
def tC (k i : Nat) : Int × Int := match k with
  | 0 => (match i with
    | 8 => (0, 1)
    | 9 => (0, 300)
    | 10 => (0, 300)
    | 11 => (0, 300)
    | _ => (-2147483648, 2147483647))
  | 1 => (match i with
    | 6 => (0, 30)
    | 7 => (0, 40)
    | _ => (-2147483648, 2147483647))
  | 2 => (0, 24)
  | 6 => (0, 3)
  | 7 => (0, 100)
  | 8 => (match i with
    | 6 => (0, 30)
    | 7 => (0, 40)
    | _ => (-2147483648, 2147483647))
  | 9 => (0, 24)
  | 13 => (0, 3)
  | 14 => (0, 100)
  | 15 => (match i with
    | 10 => (0, 12)
    | 12 => (0, 30)
    | 16 => (0, 4)
    | 17 => (0, 11)
    | _ => (-2147483648, 2147483647))
  | 16 => (0, 3)
  | 20 => (0, 11)
  | 22 => (0, 16)
  | 25 => (match i with
    | 10 => (0, 12)
    | 12 => (0, 30)
    | 16 => (0, 4)
    | 17 => (0, 11)
    | _ => (-2147483648, 2147483647))
  | 26 => (0, 3)
  | 30 => (0, 11)
  | 32 => (0, 16)
  | 35 => (match i with
    | 11 => (0, 300)
    | 12 => (0, 300)
    | 15 => (0, 12)
    | 16 => (0, 30)
    | _ => (-2147483648, 2147483647))
  | 36 => (0, 3)
  | 43 => (0, 4)
  | 44 => (0, 11)
  | 46 => (0, 3)
  | 47 => (match i with
    | 6 => (0, 1)
    | _ => (-2147483648, 2147483647))
  | 52 => (match i with
    | 6 => (0, 2)
    | 7 => (0, 300)
    | 9 => (0, 100)
    | 10 => (0, 1)
    | _ => (-2147483648, 2147483647))
  | 53 => (0, 300)
  | 54 => (0, 301)
  | 55 => (-1, 3)
  | _ => (-2147483648, 2147483647)
def gc (k i : Nat) : Bool := match k with
  | 0 => (match i with
    | 11 => true
    | _ => false)
  | 1 => (match i with
    | 6 => true
    | 7 => true
    | _ => false)
  | 2 => true
  | 35 => (match i with
    | 11 => true
    | 12 => true
    | _ => false)
  | 52 => (match i with
    | 6 => true
    | 7 => true
    | 9 => true
    | _ => false)
  | 53 => true
  | 54 => true
  | 55 => true
  | _ => false
def okR (k i : Nat) : Bool := match k with
  | 15 => (match i with
    | 16 => false
    | 17 => false
    | _ => true)
  | 16 => false
  | 17 => false
  | 26 => false
  | 27 => false
  | 43 => false
  | 44 => false
  | _ => true
def okC (k i : Nat) : Bool := !gc k i && okR k i
def IVc (h : ph_H) : Prop := ∀ k i, iv (tC k i).1 (tC k i).2 (h k i)
def KVs (h : ph_H) : Prop := ∀ i, h 16 i = 0 ∨ iv 0 11 (h 17 i)
def KVo (h : ph_H) : Prop := ∀ i, h 26 i = 0 ∨ iv 0 11 (h 27 i)
def MSm (h : ph_H) : Prop := h 15 16 = 4 → iv 0 3 (h 15 17)
def MTr (h : ph_H) : Prop := ∀ i, h 43 i = 4 → iv 0 3 (h 44 i)
def REc (h : ph_H) : Prop := KVs h ∧ KVo h ∧ MSm h ∧ MTr h
def ZC (z : zT) (h : ph_H) : Prop := ∀ k i, gc k i = true → h k i = z k i
def IC (z : zT) (h : ph_H) : Prop := IVc h ∧ REc h ∧ ZC z h
def QC (z : zT) (a b : Int) (o : Int32 × ph_H) : Prop := iv a b o.1 ∧ IC z o.2
theorem QC_mk {z : zT} {a b : Int} {x : Int32} {h : ph_H} (f : iv a b x) (I : IC z h) : QC z a b (x, h) := ⟨f, I⟩
theorem ICv {z : zT} {h : ph_H} (I : IC z h) (k i : Nat) : iv (tC k i).1 (tC k i).2 (h k i) := I.1 k i
theorem ICz {z : zT} {h : ph_H} (I : IC z h) (k i : Nat) (q : gc k i = true) : h k i = z k i := I.2.2 k i q
theorem IVc_s {h : ph_H} (I : IVc h) {k i : Nat} {v : Int32} (f : iv (tC k i).1 (tC k i).2 v) : IVc (hs h k i v) := by
  intro k' i'
  by_cases e : k' = k ∧ i' = i
  · obtain ⟨rfl, rfl⟩ := e
    rw [hz_e]
    exact f
  · rw [hs_o e]
    exact I k' i'
theorem ZC_s {z : zT} {h : ph_H} (I : ZC z h) {k i : Nat} {v : Int32} (q : gc k i = false) : ZC z (hs h k i v) := by
  intro k' i' e
  by_cases c : k' = k ∧ i' = i
  · obtain ⟨rfl, rfl⟩ := c
    rw [q] at e
    exact absurd e (by decide)
  · rw [hs_o c]
    exact I k' i' e
theorem ZC_g {z : zT} {h : ph_H} (I : ZC z h) {k i : Nat} {v : Int32} : ZC (hs z k i v) (hs h k i v) := by
  intro k' i' e
  by_cases c : k' = k ∧ i' = i
  · obtain ⟨rfl, rfl⟩ := c
    rw [hz_e, hz_e]
  · rw [hs_o c, hs_o c]
    exact I k' i' e
theorem REc_s {h : ph_H} (I : REc h) {k i : Nat} {v : Int32} (q : okR k i = true) : REc (hs h k i v) := by
  have n : ∀ k' i', okR k' i' = false → hs h k i v k' i' = h k' i' := fun k' i' e => hs_o (fun c => by
    obtain ⟨c1, c2⟩ := c
    subst c1 c2
    rw [q] at e
    exact absurd e (by decide))
  refine ⟨fun j => ?_, fun j => ?_, ?_, fun j => ?_⟩
  · rw [n 16 j rfl, n 17 j rfl]
    exact I.1 j
  · rw [n 26 j rfl, n 27 j rfl]
    exact I.2.1 j
  · unfold MSm
    rw [n 15 16 rfl, n 15 17 rfl]
    exact I.2.2.1
  · rw [n 43 j rfl, n 44 j rfl]
    exact I.2.2.2 j
theorem okC_z {k i : Nat} (q : okC k i = true) : gc k i = false ∧ okR k i = true := by
  unfold okC at q
  simp only [Bool.and_eq_true, Bool.not_eq_true'] at q
  exact q
theorem ICs {z : zT} {h : ph_H} (I : IC z h) {k i : Nat} {v : Int32} (f : iv (tC k i).1 (tC k i).2 v) (q : okC k i = true) : IC z (hs h k i v) := ⟨IVc_s I.1 f, REc_s I.2.1 (okC_z q).2, ZC_s I.2.2 (okC_z q).1⟩
theorem ICa {z : zT} {h : ph_H} (k i : Nat) {v : Int32} (I : IC z h) (t : (decide ((tC k i).1 = -2147483648) && decide ((tC k i).2 = 2147483647)) = true) (q : okC k i = true) : IC z (hs h k i v) := by
  simp only [Bool.and_eq_true, decide_eq_true_eq] at t
  refine ICs I ?_ q
  rw [t.1, t.2]
  exact iv_any v
theorem ICg {z : zT} {h : ph_H} (I : IC z h) {k i : Nat} {v : Int32} (f : iv (tC k i).1 (tC k i).2 v) (q : okR k i = true) : IC (hs z k i v) (hs h k i v) := ⟨IVc_s I.1 f, REc_s I.2.1 q, ZC_g I.2.2⟩
/-- a piece of a row into another -/
theorem hc_o {h : ph_H} {k0 k1 : Nat} {sp dp m : Int32} {k i : Nat} (e : ¬ k = k1) : hc h k0 k1 sp dp m k i = h k i := by
  unfold hc
  rw [va_up_ne _ _ e]
theorem hc_i {h : ph_H} {k0 k1 : Nat} {sp dp m : Int32} {i : Nat} : (∃ j, hc h k0 k1 sp dp m k1 i = h k0 j) ∨ hc h k0 k1 sp dp m k1 i = h k1 i := by
  unfold hc
  rw [va_up_self]
  unfold va_cpy
  split
  · exact Or.inl ⟨_, rfl⟩
  · exact Or.inr rfl
theorem ICcp {z : zT} {h : ph_H} (I : IC z h) {k0 k1 : Nat} {sp dp m : Int32} (q : ∀ i, okC k1 i = true) (t : ∀ i, decide ((tC k1 i).1 ≤ (tC k0 i).1) = true) (u : ∀ i, decide ((tC k0 i).2 ≤ (tC k1 i).2) = true) (c0 : ∀ i j, tC k0 i = tC k0 j := by intro i j; rfl) (c1 : ∀ i j, tC k1 i = tC k1 j := by intro i j; rfl) : IC z (hc h k0 k1 sp dp m) := by
  have n : ∀ k' i', okC k' i' = false → hc h k0 k1 sp dp m k' i' = h k' i' := fun k' i' e => hc_o (fun c => by
    subst c
    rw [q i'] at e
    exact absurd e (by decide))
  have nr : ∀ k' i', okR k' i' = false → hc h k0 k1 sp dp m k' i' = h k' i' := fun k' i' e => n k' i' (by unfold okC; rw [e]; simp)
  refine ⟨fun k i => ?_, ⟨fun j => ?_, fun j => ?_, ?_, fun j => ?_⟩, fun k i e => ?_⟩
  · by_cases c : k = k1
    · subst c
      rcases hc_i (h := h) (k0 := k0) (k1 := k) (sp := sp) (dp := dp) (m := m) (i := i) with ⟨j, w⟩ | w
      · rw [w]
        have f := I.1 k0 j
        have t' := t i
        have u' := u i
        simp only [decide_eq_true_eq] at t' u'
        rw [c0 j i] at f
        unfold iv at *
        omega
      · rw [w]
        exact I.1 k i
    · rw [hc_o c]
      exact I.1 k i
  · rw [nr 16 j rfl, nr 17 j rfl]
    exact I.2.1.1 j
  · rw [nr 26 j rfl, nr 27 j rfl]
    exact I.2.1.2.1 j
  · unfold MSm
    rw [nr 15 16 rfl, nr 15 17 rfl]
    exact I.2.1.2.2.1
  · rw [nr 43 j rfl, nr 44 j rfl]
    exact I.2.1.2.2.2 j
  · rw [n k i (by unfold okC; rw [e]; simp)]
    exact I.2.2 k i e
theorem cpok_iv {a b c d e f : Int} {x y m : Int32} {n0 n1 : Nat} (fx : iv a b x) (fy : iv c d y) (fm : iv e f m) (q : (decide (0 ≤ a) && decide (0 ≤ c) && decide (0 ≤ e) && decide (b + f ≤ (n0 : Int)) && decide (d + f ≤ (n1 : Int))) = true) : cpok x y m n0 n1 := by
  simp only [Bool.and_eq_true, decide_eq_true_eq] at q
  have h0 : (0 : Int32).toInt = 0 := by decide
  have t : ∀ v : Int32, v.toNatClampNeg = v.toInt.toNat := fun _ => rfl
  unfold iv at *
  unfold cpok
  rw [t, t, t, Int32.lt_iff_toInt_lt, Int32.lt_iff_toInt_lt, Int32.lt_iff_toInt_lt]
  omega
theorem iv_max {a b c d lo hi : Int} {x y : Int32} (fx : iv a b x) (fy : iv c d y) (q : ((decide (lo ≤ a) || decide (lo ≤ c)) && decide (b ≤ hi) && decide (d ≤ hi)) = true) : iv lo hi (if x < y then y else x) := by
  simp only [Bool.and_eq_true, Bool.or_eq_true, decide_eq_true_eq] at q
  split
  · rename_i h
    rw [Int32.lt_iff_toInt_lt] at h
    unfold iv at *
    omega
  · rename_i h
    rw [Int32.lt_iff_toInt_lt] at h
    unfold iv at *
    omega
theorem iv_div {a b c lo hi : Int} {x y : Int32} (fx : iv a b x) (q : (decide (0 ≤ a) && decide (y.toInt = c) && decide (1 ≤ c) && decide (lo ≤ a / c) && decide (b / c ≤ hi)) = true) : iv lo hi (x / y) := by
  simp only [Bool.and_eq_true, decide_eq_true_eq] at q
  obtain ⟨⟨⟨⟨q1, q2⟩, q3⟩, q4⟩, q5⟩ := q
  have ne : y ≠ -1 := fun e => by
    subst e
    have : (-1 : Int32).toInt = -1 := by decide
    omega
  unfold iv at *
  rw [Int32.toInt_div_of_ne_right x y ne, q2, Int.tdiv_eq_ediv_of_nonneg (by omega)]
  have h1 : a / c ≤ x.toInt / c := Int.ediv_le_ediv (by omega) fx.1
  have h2 : x.toInt / c ≤ b / c := Int.ediv_le_ediv (by omega) fx.2
  omega
theorem KVn_s {z : zT} {h : ph_H} (I : IC z h) {i : Nat} {a b : Int} (f : iv a b (h 16 i)) (q : decide (0 < a) = true) : iv 0 11 (h 17 i) := by
  rcases I.2.1.1 i with e | e
  · exact absurd e (iv_ne0 f (by simp only [decide_eq_true_eq] at q; simp [q]))
  · exact e
/-- a slot gets a kind and a number -/
theorem ICkv_s {z : zT} {h : ph_H} (I : IC z h) (i : Nat) {k v : Int32} (f : iv 0 3 k) (q : k = 0 ∨ iv 0 11 v) : IC z (hs (hs h 16 i k) 17 i v) := by
  have n : ∀ k' i', ¬ k' = 16 → ¬ k' = 17 → hs (hs h 16 i k) 17 i v k' i' = h k' i' := fun k' i' a b => by
    rw [hs_o (fun c => b c.1), hs_o (fun c => a c.1)]
  refine ⟨IVc_s (k := 17) (i := i) (IVc_s (k := 16) (i := i) I.1 f) (iv_any v), ?_, ZC_s (ZC_s I.2.2 rfl) rfl⟩
  have own : ∀ j, hs (hs h 16 i k) 17 i v 16 j = 0 ∨ iv 0 11 (hs (hs h 16 i k) 17 i v 17 j) := fun j => by
    by_cases e : j = i
    · subst e
      rw [hz_e, hs_o (fun c => absurd c.1 (by decide)), hz_e]
      exact q
    · rw [hs_o (fun c => absurd c.1 (by decide)), hs_o (fun c => e c.2), hs_o (fun c => e c.2), hs_o (fun c => absurd c.1 (by decide))]
      exact I.2.1.1 j
  refine ⟨own, fun j => by rw [n _ _ (by decide) (by decide), n _ _ (by decide) (by decide)]; exact I.2.1.2.1 j, ?_, fun j => ?_⟩
  · unfold MSm
    rw [n _ _ (by decide) (by decide), n _ _ (by decide) (by decide)]
    exact I.2.1.2.2.1
  · rw [n _ _ (by decide) (by decide), n _ _ (by decide) (by decide)]
    exact I.2.1.2.2.2 j
theorem KVn_o {z : zT} {h : ph_H} (I : IC z h) {i : Nat} {a b : Int} (f : iv a b (h 26 i)) (q : decide (0 < a) = true) : iv 0 11 (h 27 i) := by
  rcases I.2.1.2.1 i with e | e
  · exact absurd e (iv_ne0 f (by simp only [decide_eq_true_eq] at q; simp [q]))
  · exact e
/-- a slot gets a kind and a number -/
theorem ICkv_o {z : zT} {h : ph_H} (I : IC z h) (i : Nat) {k v : Int32} (f : iv 0 3 k) (q : k = 0 ∨ iv 0 11 v) : IC z (hs (hs h 26 i k) 27 i v) := by
  have n : ∀ k' i', ¬ k' = 26 → ¬ k' = 27 → hs (hs h 26 i k) 27 i v k' i' = h k' i' := fun k' i' a b => by
    rw [hs_o (fun c => b c.1), hs_o (fun c => a c.1)]
  refine ⟨IVc_s (k := 27) (i := i) (IVc_s (k := 26) (i := i) I.1 f) (iv_any v), ?_, ZC_s (ZC_s I.2.2 rfl) rfl⟩
  have own : ∀ j, hs (hs h 26 i k) 27 i v 26 j = 0 ∨ iv 0 11 (hs (hs h 26 i k) 27 i v 27 j) := fun j => by
    by_cases e : j = i
    · subst e
      rw [hz_e, hs_o (fun c => absurd c.1 (by decide)), hz_e]
      exact q
    · rw [hs_o (fun c => absurd c.1 (by decide)), hs_o (fun c => e c.2), hs_o (fun c => e c.2), hs_o (fun c => absurd c.1 (by decide))]
      exact I.2.1.2.1 j
  refine ⟨fun j => by rw [n _ _ (by decide) (by decide), n _ _ (by decide) (by decide)]; exact I.2.1.1 j, own, ?_, fun j => ?_⟩
  · unfold MSm
    rw [n _ _ (by decide) (by decide), n _ _ (by decide) (by decide)]
    exact I.2.1.2.2.1
  · rw [n _ _ (by decide) (by decide), n _ _ (by decide) (by decide)]
    exact I.2.1.2.2.2 j
/-- what the seen machine's step did: a mark, and what it is of -/
theorem ICmm {z : zT} {h : ph_H} (I : IC z h) {m d : Int32} (f : iv 0 4 m) (g : iv 0 11 d) (q : m = 4 → iv 0 3 d) : IC z (hs (hs h 15 16 m) 15 17 d) := by
  have n : ∀ k' i', ¬ (k' = 15 ∧ i' = 16) → ¬ (k' = 15 ∧ i' = 17) → hs (hs h 15 16 m) 15 17 d k' i' = h k' i' := fun k' i' a b => by
    rw [hs_o b, hs_o a]
  refine ⟨IVc_s (k := 15) (i := 17) (IVc_s (k := 15) (i := 16) I.1 f) g, ⟨fun j => ?_, fun j => ?_, ?_, fun j => ?_⟩, ZC_s (ZC_s I.2.2 rfl) rfl⟩
  · rw [n _ _ (fun c => absurd c.1 (by decide)) (fun c => absurd c.1 (by decide)), n _ _ (fun c => absurd c.1 (by decide)) (fun c => absurd c.1 (by decide))]
    exact I.2.1.1 j
  · rw [n _ _ (fun c => absurd c.1 (by decide)) (fun c => absurd c.1 (by decide)), n _ _ (fun c => absurd c.1 (by decide)) (fun c => absurd c.1 (by decide))]
    exact I.2.1.2.1 j
  · unfold MSm
    rw [hz_e, hs_o (fun c => absurd c.2 (by decide)), hz_e]
    exact q
  · rw [n _ _ (fun c => absurd c.1 (by decide)) (fun c => absurd c.1 (by decide)), n _ _ (fun c => absurd c.1 (by decide)) (fun c => absurd c.1 (by decide))]
    exact I.2.1.2.2.2 j
/-- a mark alone, which is no start -/
theorem ICm1 {z : zT} {h : ph_H} (I : IC z h) {m : Int32} (f : iv 0 4 m) (q : ¬ m = 4) : IC z (hs h 15 16 m) := by
  have n : ∀ k' i', ¬ (k' = 15 ∧ i' = 16) → hs h 15 16 m k' i' = h k' i' := fun k' i' a => hs_o a
  refine ⟨IVc_s (k := 15) (i := 16) I.1 f, ⟨fun j => ?_, fun j => ?_, ?_, fun j => ?_⟩, ZC_s I.2.2 rfl⟩
  · rw [n _ _ (fun c => absurd c.1 (by decide)), n _ _ (fun c => absurd c.1 (by decide))]
    exact I.2.1.1 j
  · rw [n _ _ (fun c => absurd c.1 (by decide)), n _ _ (fun c => absurd c.1 (by decide))]
    exact I.2.1.2.1 j
  · unfold MSm
    rw [hz_e]
    exact fun e => absurd e q
  · rw [n _ _ (fun c => absurd c.1 (by decide)), n _ _ (fun c => absurd c.1 (by decide))]
    exact I.2.1.2.2.2 j
/-- a step's mark is noted -/
theorem ICmt {z : zT} {h : ph_H} (I : IC z h) (i : Nat) {m d : Int32} (f : iv 0 4 m) (g : iv 0 11 d) (q : m = 4 → iv 0 3 d) : IC z (hs (hs h 43 i m) 44 i d) := by
  have n : ∀ k' i', ¬ k' = 43 → ¬ k' = 44 → hs (hs h 43 i m) 44 i d k' i' = h k' i' := fun k' i' a b => by
    rw [hs_o (fun c => b c.1), hs_o (fun c => a c.1)]
  refine ⟨IVc_s (k := 44) (i := i) (IVc_s (k := 43) (i := i) I.1 f) g, ⟨fun j => ?_, fun j => ?_, ?_, fun j => ?_⟩, ZC_s (ZC_s I.2.2 rfl) rfl⟩
  · rw [n _ _ (by decide) (by decide), n _ _ (by decide) (by decide)]
    exact I.2.1.1 j
  · rw [n _ _ (by decide) (by decide), n _ _ (by decide) (by decide)]
    exact I.2.1.2.1 j
  · unfold MSm
    rw [n _ _ (by decide) (by decide), n _ _ (by decide) (by decide)]
    exact I.2.1.2.2.1
  · by_cases e : j = i
    · subst e
      rw [hz_e, hs_o (fun c => absurd c.1 (by decide)), hz_e]
      exact q
    · rw [hs_o (fun c => absurd c.1 (by decide)), hs_o (fun c => e c.2), hs_o (fun c => e c.2), hs_o (fun c => absurd c.1 (by decide))]
      exact I.2.1.2.2.2 j
