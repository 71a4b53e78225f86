/-! THE INVARIANT of the reference: bounds of its numbers; a THING in a slot has its number; z: many, inputs, turns. -/
abbrev zT : Type := ph_H
def tM (k i : Nat) : Int × Int := match k with
  | 0 => (match i with
    | 7 => (0, 30)
    | 9 => (0, 40)
    | 18 => (0, 12)
    | 23 => (0, 30)
    | 24 => (0, 300)
    | 26 => (0, 3)
    | 33 => (0, 1)
    | 34 => (0, 30)
    | 35 => (0, 1)
    | 36 => (0, 1)
    | 38 => (0, 300)
    | 41 => (0, 30)
    | 42 => (0, 300)
    | 60 => (0, 300)
    | 64 => (0, 1)
    | 74 => (0, 2)
    | _ => (-2147483648, 2147483647))
  | 1 => (0, 24)
  | 8 => (0, 3)
  | 9 => (0, 100)
  | 10 => (0, 3)
  | 12 => (0, 24)
  | 13 => (0, 1)
  | 14 => (-1, 11)
  | 15 => (-1, 11)
  | 18 => (0, 16)
  | 24 => (0, 12)
  | 27 => (0, 16)
  | 38 => (0, 3)
  | 39 => (0, 1)
  | 43 => (0, 3)
  | 45 => (0, 60)
  | _ => (-2147483648, 2147483647)
def gz (k i : Nat) : Bool := match k with
  | 0 => (match i with
    | 7 => true
    | 9 => true
    | 23 => true
    | 24 => true
    | 33 => true
    | 34 => true
    | 60 => true
    | _ => false)
  | 1 => true
  | 2 => true
  | _ => false
def okG (k : Nat) : Bool := match k with
  | 10 => false
  | 11 => false
  | _ => true
def okM (k i : Nat) : Bool := !gz k i && okG k
def IVm (h : ph_H) : Prop := ∀ k i, iv (tM k i).1 (tM k i).2 (h k i)
def KV (h : ph_H) : Prop := ∀ i, h 10 i = 0 ∨ iv 0 11 (h 11 i)
def ZM (z : zT) (h : ph_H) : Prop := ∀ k i, gz k i = true → h k i = z k i
def IM (z : zT) (h : ph_H) : Prop := IVm h ∧ KV h ∧ ZM z h
def Qi (z : zT) (a b : Int) (o : Int32 × ph_H) : Prop := iv a b o.1 ∧ IM z o.2
theorem Qi_mk {z : zT} {a b : Int} {x : Int32} {h : ph_H} (f : iv a b x) (I : IM z h) : Qi z a b (x, h) := ⟨f, I⟩
def Qc (a b : Int) (C : Int32 → Prop) (r : Int32) : Prop := iv a b r ∧ C r
theorem IMv {z : zT} {h : ph_H} (I : IM z h) (k i : Nat) : iv (tM k i).1 (tM k i).2 (h k i) := I.1 k i
theorem hs_o {h : ph_H} {k i : Nat} {v : Int32} {k' i' : Nat} (q : ¬ (k' = k ∧ i' = i)) : hs h k i v k' i' = h k' i' := by
  unfold hs
  by_cases e : k' = k
  · subst e
    rw [va_up_self]
    have : i' ≠ i := fun z => q ⟨rfl, z⟩
    simp [upd, this]
  · rw [va_up_ne _ _ e]
theorem IV_s {h : ph_H} (I : IVm h) {k i : Nat} {v : Int32} (f : iv (tM k i).1 (tM k i).2 v) : IVm (hs h k i v) := by
  intro k' i'
  by_cases e : k' = k ∧ i' = i
  · obtain ⟨rfl, rfl⟩ := e
    rw [hz_e]
    exact f
  · rw [hs_o e]
    exact I k' i'
theorem ZM_s {z : zT} {h : ph_H} (I : ZM z h) {k i : Nat} {v : Int32} (q : gz k i = false) : ZM z (hs h k i v) := by
  intro k' i' e
  by_cases c : k' = k ∧ i' = i
  · obtain ⟨rfl, rfl⟩ := c
    rw [q] at e
    exact absurd e (by decide)
  · rw [hs_o c]
    exact I k' i' e
theorem ZM_g {z : zT} {h : ph_H} (I : ZM z h) {k i : Nat} {v : Int32} : ZM (hs z k i v) (hs h k i v) := by
  intro k' i' e
  by_cases c : k' = k ∧ i' = i
  · obtain ⟨rfl, rfl⟩ := c
    rw [hz_e, hz_e]
  · rw [hs_o c, hs_o c]
    exact I k' i' e
theorem okG_k {k : Nat} (q : okG k = true) : ¬ k = 10 ∧ ¬ k = 11 := by
  refine ⟨?_, ?_⟩
  · rintro rfl
    exact absurd q (by decide)
  · rintro rfl
    exact absurd q (by decide)
theorem okM_z {k i : Nat} (q : okM k i = true) : gz k i = false ∧ okG k = true := by
  unfold okM at q
  simp only [Bool.and_eq_true, Bool.not_eq_true'] at q
  exact q
theorem KV_s {h : ph_H} (I : KV h) {k i : Nat} {v : Int32} (q : okG k = true) : KV (hs h k i v) := by
  obtain ⟨q3, q4⟩ := okG_k q
  intro j
  rw [hs_o (fun e => q3 e.1.symm), hs_o (fun e => q4 e.1.symm)]
  exact I j
theorem IMs {z : zT} {h : ph_H} (I : IM z h) {k i : Nat} {v : Int32} (f : iv (tM k i).1 (tM k i).2 v) (q : okM k i = true) : IM z (hs h k i v) := ⟨IV_s I.1 f, KV_s I.2.1 (okM_z q).2, ZM_s I.2.2 (okM_z q).1⟩
/-- a ghost's number changes -/
theorem IMg {z : zT} {h : ph_H} (I : IM z h) {k i : Nat} {v : Int32} (f : iv (tM k i).1 (tM k i).2 v) (q : okG k = true) : IM (hs z k i v) (hs h k i v) := ⟨IV_s I.1 f, KV_s I.2.1 q, ZM_g I.2.2⟩
theorem IMz {z : zT} {h : ph_H} (I : IM z h) (k i : Nat) (q : gz k i = true) : h k i = z k i := I.2.2 k i q
theorem IMk0 {z : zT} {h : ph_H} (I : IM z h) (i : Nat) : IM z (hs h 10 i 0) := by
  refine ⟨IV_s (k := 10) (i := i) I.1 (show iv 0 3 0 from ⟨by decide, by decide⟩), fun j => ?_, ZM_s I.2.2 rfl⟩
  by_cases e : j = i
  · subst e
    exact Or.inl hz_e
  · rw [hs_o (fun z => e z.2), hs_o (fun z => absurd z.1 (by decide))]
    exact I.2.1 j
/-- a slot gets a kind and a value -/
theorem IMkv {z : zT} {h : ph_H} (I : IM z h) (i : Nat) {k v : Int32} (f : iv 0 3 k) (q : k = 0 ∨ iv 0 11 v) : IM z (hs (hs h 10 i k) 11 i v) := by
  refine ⟨IV_s (k := 11) (i := i) (IV_s (k := 10) (i := i) I.1 f) (iv_any v), fun j => ?_, ZM_s (ZM_s I.2.2 rfl) rfl⟩
  by_cases e : j = i
  · subst e
    rw [hz_e, hs_o (fun z => absurd z.1 (by decide)), hz_e]
    exact q
  · rw [hs_o (fun z => absurd z.1 (by decide)), hs_o (fun z => e z.2), hs_o (fun z => e z.2), hs_o (fun z => absurd z.1 (by decide))]
    exact I.2.1 j
theorem KVn {z : zT} {h : ph_H} (I : IM z h) {i : Nat} {a b : Int} (f : iv a b (h 10 i)) (q : decide (0 < a) = true) : iv 0 11 (h 11 i) := by
  rcases I.2.1 i with e | e
  · exact absurd e (iv_ne0 f (by simp only [decide_eq_true_eq] at q; simp [q]))
  · exact e
/-- a slot of kind 0 gets a value -/
theorem IMv0 {z : zT} {h : ph_H} (I : IM z h) {i : Nat} {v : Int32} (q : h 10 i = 0) : IM z (hs h 11 i v) := by
  refine ⟨IV_s (k := 11) (i := i) I.1 (iv_any v), fun j => ?_, ZM_s I.2.2 rfl⟩
  by_cases e : j = i
  · subst e
    rw [hs_o (fun z => absurd z.1 (by decide))]
    exact Or.inl q
  · rw [hs_o (fun z => absurd z.1 (by decide)), hs_o (fun z => e z.2)]
    exact I.2.1 j
def Qf (h : ph_H) (r : Int32) : Prop := iv (-1) 3 r ∧ (¬ r < 0 → iv 0 23 (h 12 (r.toNatClampNeg)))
def WOK (o a b c : Int32) (h : ph_H) : Prop := (o = 8 → iv 0 16 (h 11 b.toNatClampNeg) ∧ iv 0 11 (h 0 18)) ∧ (o = 9 → iv 0 11 (h 11 b.toNatClampNeg) ∧ iv 0 15 (h 11 c.toNatClampNeg)) ∧ (o = 10 → iv 0 11 (h 11 a.toNatClampNeg) ∧ iv 0 15 (h 11 b.toNatClampNeg)) ∧ (o = 11 → iv 0 11 (h 0 18)) ∧ (o = 12 → iv 0 11 (h 11 a.toNatClampNeg)) ∧ (o = 13 → iv 0 11 (h 11 a.toNatClampNeg)) ∧ (o = 14 → iv 0 11 (h 11 a.toNatClampNeg)) ∧ (o = 15 → iv 0 11 (h 11 a.toNatClampNeg)) ∧ (o = 16 → h 0 33 = 0 → ¬ h 0 23 = h 0 7)
def Qw (o a b c : Int32) (h : ph_H) (r : Int32) : Prop := iv 0 19 r ∧ (r = 0 → WOK o a b c h)
def wz (o : Int32) (z : zT) (v : Int32) : zT := if o = 16 then hs z 0 23 (v + 1) else z
theorem wz_p {o v : Int32} {z : zT} {h : ph_H} (c : o = 16) (I : IM (hs z 0 23 (v + 1)) h) : IM (wz o z v) h := by
  unfold wz
  rw [if_pos c]
  exact I
theorem wz_n {o v : Int32} {z : zT} {h : ph_H} (c : ¬ o = 16) (I : IM z h) : IM (wz o z v) h := by
  unfold wz
  rw [if_neg c]
  exact I
theorem SX12_set {z : zT} (a0 a1 a2 : Int32) (h : ph_H) (I : IM z h) (f0 : iv 0 27 a0) (f1 : iv 0 3 a1) (q : a1 = 0 ∨ iv 0 11 a2) : PX12_set a0 a1 a2 h ∧ IM z (FX12_set a0 a1 a2 h) := ⟨⟨iv_in f0 rfl, iv_in f0 rfl, trivial⟩, IMkv I _ f1 q⟩
