/-! RUNS of the reference -/
def zm (z z' : zT) : Prop := (∀ i, z' 1 i = z 1 i) ∧ z' 0 7 = z 0 7 ∧ z' 0 9 = z 0 9
theorem zm_r (z : zT) : zm z z := ⟨fun _ => rfl, rfl, rfl⟩
theorem zm_t {z z' z'' : zT} (a : zm z z') (b : zm z' z'') : zm z z'' := ⟨fun i => (b.1 i).trans (a.1 i), b.2.1.trans a.2.1, b.2.2.trans a.2.2⟩
theorem zm_hs {z z' : zT} {i : Nat} {v : Int32} (a : zm z z') (n7 : Nat.beq 7 i = false) (n9 : Nat.beq 9 i = false) : zm z (hs z' 0 i v) := ⟨fun j => (hz_k rfl).trans (a.1 j), (hz_i n7).trans a.2.1, (hz_i n9).trans a.2.2⟩
theorem zm_zr {z z' z'' : zT} (a : zm z z') (r : zr z' z'') : zm z z'' := zm_t a ⟨fun i => r 1 i rfl (fun e => absurd e.1 (by decide)), r 0 7 rfl (fun e => by rcases e.2 with h | h <;> exact absurd h (by decide)), r 0 9 rfl (fun e => by rcases e.2 with h | h <;> exact absurd h (by decide))⟩
def IT (z : zT) (h : ph_H) : Prop := ∃ z', zm z z' ∧ IM z' h ∧ z' 0 33 = 0
def RT (z : zT) (h : ph_H) : Prop := ∃ z', zm z z' ∧ IM z' h ∧ z' 0 33 = 0 ∧ RMz z'
def QiT (z : zT) (a b : Int) (o : Int32 × ph_H) : Prop := iv a b o.1 ∧ IT z o.2
theorem RT.t {z : zT} {h : ph_H} (I : RT z h) : IT z h := by
  obtain ⟨z', a, b, c, _⟩ := I
  exact ⟨z', a, b, c⟩
theorem ITv {z : zT} {h : ph_H} (I : IT z h) (k i : Nat) : iv (tM k i).1 (tM k i).2 (h k i) := by
  obtain ⟨z', a, b, c⟩ := I
  exact IMv b k i
theorem ITs {z : zT} {h : ph_H} (I : IT z h) {k i : Nat} {v : Int32} (f : iv (tM k i).1 (tM k i).2 v) (q : okM k i = true) : IT z (hs h k i v) := by
  obtain ⟨z', a, b, c⟩ := I
  exact ⟨z', a, IMs b f q, c⟩
/-- a method that keeps the invariant under every ghost -/
theorem toT {z : zT} {h : ph_H} {P : Prop} {a b : Int} {o : Int32 × ph_H} (I : IT z h) (S : ∀ z', IM z' h → P ∧ Qi z' a b o) : P ∧ QiT z a b o := by
  obtain ⟨z', m, i, e⟩ := I
  have s := S z' i
  exact ⟨s.1, s.2.1, z', m, s.2.2, e⟩
theorem RMz_0 {z : zT} {h : ph_H} (I : IM z h) : RMz (hs (hs z 0 23 0) 0 24 0) := by
  refine RMz_24 ?_
  have e33 : hs z 0 23 0 0 33 = z 0 33 := hz_i rfl
  have e7 : hs z 0 23 0 0 7 = z 0 7 := hz_i rfl
  have e34 : hs z 0 23 0 0 34 = z 0 34 := hz_i rfl
  have f7 : iv 0 30 (z 0 7) := zi I 0 7 rfl
  have f34 : iv 0 30 (z 0 34) := zi I 0 34 rfl
  have h0 : (0 : Int32).toInt = 0 := by decide
  unfold iv at *
  unfold RMz
  rw [e33, e7, e34, hz_e, h0]
  exact ⟨fun _ => f7.1, fun _ => f34.1⟩
/-- a new run -/
theorem T_begin {z : zT} {h : ph_H} (I : IT z h) : PX12_begin h ∧ (RT z (FX12_begin h) ∧ FX12_begin h 0 24 = 0) := by
  obtain ⟨z', m, i, e⟩ := I
  have s := SX12_begin (z := z') h i
  refine ⟨s.1, ⟨_, zm_hs (zm_hs m rfl rfl) rfl rfl, s.2, ?_, RMz_0 i⟩, ?_⟩
  · exact (hz_i rfl).trans ((hz_i rfl).trans e)
  · exact (IMz s.2 0 24 rfl).trans hz_e
theorem T_step {z : zT} {h : ph_H} {t : Int32} (I : RT z h) (f0 : iv 0 3 t) (fn : iv 0 23 (h 12 (t.toNatClampNeg))) (fs : iv 0 299 (h 0 24)) : PX12_step t h ∧ (RT z (FX12_step t h) ∧ (FX12_step t h 0 24).toInt = (h 0 24).toInt + 1) := by
  obtain ⟨z', m, i, e, r⟩ := I
  have s := SX12_step (z := z') t h i r f0 fn fs
  obtain ⟨z2, i2, r2, q2, d⟩ := s.2
  have e2 : z2 0 33 = 0 := (q2 0 33 rfl (fun e => by rcases e.2 with h | h <;> exact absurd h (by decide))).trans e
  rcases d with d | d
  · refine ⟨s.1, ⟨z2, zm_zr m q2, i2, e2, r2⟩, ?_⟩
    rw [IMz i2 0 24 rfl, IMz i 0 24 rfl]
    exact d
  · exact absurd e d.1
theorem T_free {z : zT} {h : ph_H} {t : Int32} (I : IT z h) (f0 : iv 0 3 t) : PX12_free t h ∧ Qf h (FX12_free t h) := by
  obtain ⟨z', m, i, e⟩ := I
  exact SX12_free (z := z') t h i f0
theorem T_canGo {z : zT} {h : ph_H} {t : Int32} (I : IT z h) (f0 : iv 0 3 t) : PX12_canGo t h ∧ Qc 0 1 (fun r => ¬ r = 0 → iv 0 23 (h 12 (t.toNatClampNeg))) (FX12_canGo t h) := by
  obtain ⟨z', m, i, e⟩ := I
  exact SX12_canGo (z := z') t h i f0
theorem iv_lt {b : Int} {x y : Int32} (f : iv 0 b x) (h : ¬ y ≤ x) {m : Int} (q : decide (y.toInt = m + 1) = true) : iv 0 m x := by
  simp only [decide_eq_true_eq] at q
  have := nle h
  rw [Int32.lt_iff_toInt_lt] at this
  unfold iv at *
  omega
theorem iv_00 : iv 0 1 (0 : Int32) := ⟨by decide, by decide⟩
theorem iv_01 : iv 0 1 (1 : Int32) := ⟨by decide, by decide⟩
theorem S_127 {z : zT} {h : ph_H} {x1 : Int32} (I : IT z h) : PX12_tryRun_127 x1 h ∧ QiT z 0 1 (FX12_tryRun_127 x1 h) := by
  unfold PX12_tryRun_127 FX12_tryRun_127
  exact sf_if (fun _ => ⟨trivial, iv_01, I⟩) (fun _ => ⟨trivial, iv_00, I⟩)
theorem S_tr12 {z : zT} : ∀ (q : Nat) (x1 x2 : Int32) (h : ph_H), RT z h → iv 0 2 x1 → iv (-1) 3 x2 → (¬ x2 < 0 → iv 0 23 (h 12 (x2.toNatClampNeg))) → 300 - (h 0 24).toInt < (q : Int) → PX12_tryRun_12 q x1 x2 h ∧ QiT z 0 1 (FX12_tryRun_12 q x1 x2 h) := by
  intro q
  induction q with
  | zero =>
    intro x1 x2 h I f1 f2 fn mq
    have g : iv 0 300 (h 0 24) := ITv I.t 0 24
    unfold iv at g
    exfalso
    omega
  | succ q ih =>
    intro x1 x2 h I f1 f2 fn mq
    unfold PX12_tryRun_12 FX12_tryRun_12
    refine sf_if (fun _ => S_127 I.t) (fun c1 => sf_if (fun c2 => sf_if (fun _ => S_127 I.t) (fun c3 => ?_)) (fun _ => S_127 I.t))
    have g : iv 0 300 (h 0 24) := ITv I.t 0 24
    have f3 : iv 0 3 x2 := iv_ler f2 (iv_lit (lo := 0) (hi := 0) (x := 0) rfl) (nlt c1) rfl
    have s := T_step I f3 (fn c1) (iv_lt g c3 rfl)
    refine sf_n s.1 ?_
    obtain ⟨I2, e24⟩ := s.2
    have m2 : 300 - (FX12_step x2 h 0 24).toInt < (q : Int) := by omega
    have fr := T_free I2.t (t := FX12_step x2 h 0 26) (ITv I2.t 0 26)
    unfold PX12_tryRun_38 FX12_tryRun_38
    refine sf_n fr.1 (sf_if (fun _ => ih _ _ _ I2 f1 fr.2.1 fr.2.2 m2) (fun d1 => ?_))
    have g74 : iv 0 2 (FX12_step x2 h 0 74) := ITv I2.t 0 74
    have f4 : iv 0 1 x1 := iv_ltl f1 g74 (nle d1) rfl
    have g43 : iv 0 3 (FX12_step x2 h 43 (x1.toNatClampNeg)) := ITv I2.t 43 _
    have cg := T_canGo I2.t g43
    have Z : ∀ P : Prop, P → P ∧ QiT z 0 1 ((0 : Int32), FX12_step x2 h) := fun P p => ⟨p, iv_00, I2.t⟩
    refine sf_n (iv_in f4 rfl) (sf_if (fun _ => sf_if (fun _ => Z _ trivial) (fun _ => sf_if (fun _ => Z _ trivial) (fun _ => sf_if (fun _ => Z _ trivial) (fun _ => sf_n (iv_in f4 rfl) (sf_if (fun _ => Z _ trivial) (fun _ => sf_n (iv_in f4 rfl) (sf_n cg.1 (sf_if (fun _ => Z _ trivial) (fun cc => sf_n (iv_in f4 rfl) ?_))))))))) (fun _ => ih _ _ _ I2 f1 fr.2.1 fr.2.2 m2))
    exact ih _ _ _ I2 (iv_add f4 (iv_lit (lo := 1) (hi := 1) (x := 1) rfl) rfl) (iv_w g43 rfl) (fun _ => cg.2.2 cc) m2
theorem SX12_tryRun {z : zT} (h : ph_H) (I : IT z h) : PX12_tryRun h ∧ QiT z 0 1 (FX12_tryRun h) := by
  have b := T_begin I
  have h0 : (0 : Int32).toInt = 0 := by decide
  unfold PX12_tryRun FX12_tryRun PX12_tryRun_4 FX12_tryRun_4
  refine sf_n b.1 ?_
  obtain ⟨I2, e⟩ := b.2
  have fr := T_free I2.t (t := 0) ⟨by decide, by decide⟩
  refine sf_n fr.1 (S_tr12 2000 _ _ _ I2 ⟨by decide, by decide⟩ fr.2.1 fr.2.2 ?_)
  rw [e, h0]
  decide
/-! run: the CHANGES are no more than the steps -/
def RH (z : zT) (h : ph_H) : Prop := ∃ z', zm z z' ∧ IM z' h ∧ z' 0 33 = 0 ∧ RMz z' ∧ (z' 0 60).toInt ≤ (z' 0 24).toInt
theorem RH.t {z : zT} {h : ph_H} (I : RH z h) : IT z h := by
  obtain ⟨z', a, b, c, _⟩ := I
  exact ⟨z', a, b, c⟩
theorem RMz_60 {z : zT} {v : Int32} (R : RMz z) : RMz (hs z 0 60 v) := by
  have e33 : hs z 0 60 v 0 33 = z 0 33 := hz_i rfl
  have e7 : hs z 0 60 v 0 7 = z 0 7 := hz_i rfl
  have e34 : hs z 0 60 v 0 34 = z 0 34 := hz_i rfl
  have e23 : hs z 0 60 v 0 23 = z 0 23 := hz_i rfl
  unfold RMz
  rw [e33, e7, e34, e23]
  exact R
theorem S_k182 {z : zT} {h : ph_H} {s0 s1 : Int32} (I : IM z h) (f1 : iv 0 300 s1) : PX12_stepKept_182 s0 s1 h ∧ IM z (FX12_stepKept_182 s0 s1 h) := by
  have g : iv 0 300 (h 0 24) := IMv I 0 24
  have k := SX12_keep (z := z) (h 0 24) (hs (hs h 34 s1.toNatClampNeg s0) 35 (h 0 24).toNatClampNeg (h 0 32)) (IMa 35 _ (IMa 34 _ I rfl rfl) rfl rfl) g
  exact sf_n (iv_in f1 rfl) (sf_n (iv_in g rfl) (sf_n k.1 ⟨trivial, k.2⟩))
theorem S_k158 {z : zT} {h : ph_H} {s0 s1 : Int32} (I : IM z h) (f1 : iv 0 300 s1) : PX12_stepKept_158 s0 s1 h ∧ IM z (FX12_stepKept_158 s0 s1 h) := by
  have g : iv 0 300 (h 0 24) := IMv I 0 24
  unfold PX12_stepKept_158 FX12_stepKept_158
  exact sf_n (iv_in f1 rfl) (sf_if (fun _ => S_k182 (IMa 33 _ I rfl rfl) g) (fun _ => S_k182 (IMa 33 _ I rfl rfl) g))
theorem S_k133 {z : zT} {h : ph_H} {s0 s1 : Int32} (I : IM z h) (f1 : iv 0 300 s1) : PX12_stepKept_133 s0 s1 h ∧ IM z (FX12_stepKept_133 s0 s1 h) := by
  have g : iv 0 300 (h 0 24) := IMv I 0 24
  unfold PX12_stepKept_133 FX12_stepKept_133
  exact sf_n (iv_in f1 rfl) (sf_if (fun _ => S_k158 (IMa 32 _ I rfl rfl) g) (fun _ => S_k158 (IMa 32 _ I rfl rfl) g))
theorem S_k73 {z : zT} {h : ph_H} {x1 : Int32} (I : IM z h) : PX12_stepKept_73 x1 h ∧ IM z (FX12_stepKept_73 x1 h) := by
  have g : iv 0 300 (h 0 24) := IMv I 0 24
  unfold PX12_stepKept_73 FX12_stepKept_73
  exact sf_n (iv_in g rfl) (sf_n (iv_in g rfl) (sf_n (iv_in g rfl) (sf_if (fun _ => S_k133 (IMa 31 _ (IMa 30 _ (IMa 29 _ I rfl rfl) rfl rfl) rfl rfl) g) (fun _ => S_k133 (IMa 31 _ (IMa 30 _ (IMa 29 _ I rfl rfl) rfl rfl) rfl rfl) g))))
theorem S_k53 {z : zT} {h : ph_H} {x1 x3 : Int32} (I : IM z h) (f3 : iv 0 30 x3) : PX12_stepKept_53 x1 x3 h ∧ IM z (FX12_stepKept_53 x1 x3 h) := by
  have g : iv 0 30 (h 0 23) := IMv I 0 23
  unfold PX12_stepKept_53 FX12_stepKept_53
  refine sf_if (fun _ => S_k73 I) (fun c => ?_)
  have f4 : iv 0 29 x3 := iv_ltl f3 g (nle c) rfl
  exact sf_n (iv_in f4 rfl) (sf_n (iv_in f4 rfl) (S_k73 (IMa 36 _ I rfl rfl)))
/-- one kept step: the changes of c at most, one step more -/
theorem S_k48 {z : zT} {h : ph_H} {x1 x3 : Int32} {C : Int} (I : IM z h) (R : RMz z) (e : z 0 33 = 0) (f1 : iv 0 3 x1) (f3 : iv 0 30 x3) (fn : iv 0 23 (h 12 (x1.toNatClampNeg))) (fs : iv 0 299 (h 0 24)) (fc : (z 0 60).toInt ≤ (z 0 24).toInt + 1) : PX12_stepKept_48 x1 x3 h ∧ (RH z (FX12_stepKept_48 x1 x3 h) ∧ (FX12_stepKept_48 x1 x3 h 0 24).toInt = (h 0 24).toInt + 1) := by
  have s := SX12_step (z := z) x1 h I R f1 fn fs
  obtain ⟨z2, i2, r2, q2, d⟩ := s.2
  have n0 : ∀ i : Nat, (i = 23 ∨ i = 24) ∨ ¬ ((0 : Nat) = 0 ∧ (i = 23 ∨ i = 24)) := fun i => by
    rcases Nat.decEq i 23 with a | a
    · rcases Nat.decEq i 24 with b | b
      · exact Or.inr (fun q => by rcases q.2 with w | w <;> contradiction)
      · exact Or.inl (Or.inr b)
    · exact Or.inl (Or.inl a)
  have e2 : z2 0 33 = 0 := (q2 0 33 rfl (fun e => by rcases e.2 with h | h <;> exact absurd h (by decide))).trans e
  have e60 : z2 0 60 = z 0 60 := q2 0 60 rfl (fun e => by rcases e.2 with h | h <;> exact absurd h (by decide))
  rcases d with d | d
  · have k := S_k53 (x1 := x1) i2 f3
    unfold PX12_stepKept_48 FX12_stepKept_48
    refine sf_n s.1 ⟨k.1, ⟨z2, zm_zr (zm_r z) q2, k.2, e2, r2, ?_⟩, ?_⟩
    · rw [e60]
      omega
    · rw [IMz k.2 0 24 rfl, IMz I 0 24 rfl]
      exact d
  · exact absurd e d.1
theorem T_kept {z : zT} {h : ph_H} {t : Int32} (I : RH z h) (f0 : iv 0 3 t) (fn : iv 0 23 (h 12 (t.toNatClampNeg))) (fs : iv 0 299 (h 0 24)) : PX12_stepKept t h ∧ (RH z (FX12_stepKept t h) ∧ (FX12_stepKept t h 0 24).toInt = (h 0 24).toInt + 1) := by
  obtain ⟨z1, m, i, e, r, c⟩ := I
  have up : ∀ o : ph_H, RH z1 o → RH z o := fun o q => by
    obtain ⟨z2, m2, q2⟩ := q
    exact ⟨z2, zm_t m m2, q2⟩
  have g23 : iv 0 30 (h 0 23) := IMv i 0 23
  have e24 := IMz i 0 24 rfl
  have e60 := IMz i 0 60 rfl
  unfold PX12_stepKept FX12_stepKept
  refine sf_if (Q := fun o => RH z o ∧ (o 0 24).toInt = (h 0 24).toInt + 1) (fun _ => ?_) (fun _ => ?_)
  · have k := S_k48 (C := 0) (x3 := h 0 23) i r e f0 g23 fn fs (by omega)
    exact ⟨k.1, up _ k.2.1, k.2.2⟩
  · have g60 : iv 0 299 (h 0 60) := by
      have g : iv 0 300 (h 0 60) := IMv i 0 60
      rw [e60] at *
      rw [e24] at fs
      unfold iv at *
      omega
    have I1 : IM z1 (hs (hs h 37 (h 0 60).toNatClampNeg (h 0 24)) 38 (h 0 60).toNatClampNeg t) := IMs (k := 38) (IMa 37 _ i rfl rfl) (show iv 0 3 t from f0) rfl
    have f9 : iv 0 300 (h 0 60 + 1) := iv_add g60 (iv_lit (lo := 1) (hi := 1) (x := 1) rfl) rfl
    have I2 : IM (hs z1 0 60 (h 0 60 + 1)) (hs (hs (hs h 37 (h 0 60).toNatClampNeg (h 0 24)) 38 (h 0 60).toNatClampNeg t) 0 60 (h 0 60 + 1)) := IMg I1 f9 rfl
    have q24 : hs z1 0 60 (h 0 60 + 1) 0 24 = z1 0 24 := hz_i rfl
    have q33 : hs z1 0 60 (h 0 60 + 1) 0 33 = z1 0 33 := hz_i rfl
    have w24 : hs (hs (hs h 37 (h 0 60).toNatClampNeg (h 0 24)) 38 (h 0 60).toNatClampNeg t) 0 60 (h 0 60 + 1) 0 24 = h 0 24 := (hz_i rfl).trans ((hz_k rfl).trans (hz_k rfl))
    have w12 : hs (hs (hs h 37 (h 0 60).toNatClampNeg (h 0 24)) 38 (h 0 60).toNatClampNeg t) 0 60 (h 0 60 + 1) 12 (t.toNatClampNeg) = h 12 (t.toNatClampNeg) := (hz_k rfl).trans ((hz_k rfl).trans (hz_k rfl))
    have k := S_k48 (C := 0) (x3 := h 0 23) I2 (RMz_60 r) (q33.trans e) f0 g23 (iv_r w12 fn) (iv_r w24 fs) (by
      rw [hz_e, q24, ti_inc g60 rfl, e60]
      omega)
    refine sf_n (iv_in g60 rfl) (sf_n (iv_in g60 rfl) ⟨k.1, up _ ?_, by rw [← w24]; exact k.2.2⟩)
    obtain ⟨z2, m2, q2⟩ := k.2.1
    exact ⟨z2, zm_t (zm_hs (zm_r z1) rfl rfl) m2, q2⟩
theorem RHv {z : zT} {h : ph_H} (I : RH z h) (k i : Nat) : iv (tM k i).1 (tM k i).2 (h k i) := ITv I.t k i
theorem S_r150 {z : zT} {h : ph_H} (I : IT z h) : PX12_run_150 h ∧ QiT z (-2147483648) 2147483647 (FX12_run_150 h) := by
  obtain ⟨z1, m, i, e⟩ := I
  have i1 : IM z1 (hs h 0 36 1) := IMs i (show iv 0 1 1 from ⟨by decide, by decide⟩) rfl
  have s := SX12_ending (z := z1) _ i1
  have g24 : iv 0 300 (h 0 24) := IMv i 0 24
  have i4 : IM z1 (hs (hs (hs (hs h 0 36 1) 0 37 (FX12_ending (hs h 0 36 1))) 0 38 (h 0 24)) 0 39 (h 0 25)) := IMa 0 39 (IMs (k := 0) (i := 38) (IMa 0 37 i1 rfl rfl) (show iv 0 300 (h 0 24) from g24) rfl) rfl rfl
  have T : ∀ v : Int32, PX12_run_195 v (hs (hs (hs (hs h 0 36 1) 0 37 (FX12_ending (hs h 0 36 1))) 0 38 (h 0 24)) 0 39 (h 0 25)) ∧ QiT z (-2147483648) 2147483647 (FX12_run_195 v (hs (hs (hs (hs h 0 36 1) 0 37 (FX12_ending (hs h 0 36 1))) 0 38 (h 0 24)) 0 39 (h 0 25))) := fun v => by
    refine ⟨trivial, iv_any _, z1, m, ?_, e⟩
    exact IMs (k := 0) (i := 42) (IMs (k := 0) (i := 41) (IMa 0 40 i4 rfl rfl) (show iv 0 30 _ from IMv i4 0 23) rfl) (show iv 0 300 _ from IMv i4 0 24) rfl
  unfold PX12_run_150 FX12_run_150
  exact sf_n s.1 (sf_if (fun _ => T _) (fun _ => T _))
theorem S_r112 {z : zT} : ∀ (q : Nat) (x1 : Int32) (h : ph_H), RH z h → iv (-1) 3 x1 → (¬ x1 < 0 → iv 0 23 (h 12 (x1.toNatClampNeg))) → 300 - (h 0 24).toInt < (q : Int) → PX12_run_112 q x1 h ∧ QiT z (-2147483648) 2147483647 (FX12_run_112 q x1 h) := by
  intro q
  induction q with
  | zero =>
    intro x1 h I f1 fn mq
    have g : iv 0 300 (h 0 24) := RHv I 0 24
    unfold iv at g
    exfalso
    omega
  | succ q ih =>
    intro x1 h I f1 fn mq
    unfold PX12_run_112 FX12_run_112
    refine sf_if (fun _ => S_r150 I.t) (fun c1 => sf_if (fun c2 => sf_if (fun _ => S_r150 I.t) (fun c3 => ?_)) (fun _ => S_r150 I.t))
    have g : iv 0 300 (h 0 24) := RHv I 0 24
    have f3 : iv 0 3 x1 := iv_ler f1 (iv_lit (lo := 0) (hi := 0) (x := 0) rfl) (nlt c1) rfl
    have s := T_kept I f3 (fn c1) (iv_lt g c3 rfl)
    refine sf_n s.1 ?_
    obtain ⟨I2, e24⟩ := s.2
    have fr := T_free I2.t (t := FX12_stepKept x1 h 0 26) (RHv I2 0 26)
    unfold PX12_run_138 FX12_run_138
    exact sf_n fr.1 (ih _ _ I2 fr.2.1 fr.2.2 (by omega))
theorem S_r41 {z : zT} (L31 : Int32 → ph_H → Int32 × ph_H) (LP31 : Int32 → ph_H → Prop) (k : Int32) (hL : ∀ h, RH z h → LP31 (k + 1) h ∧ QiT z (-2147483648) 2147483647 (L31 (k + 1) h)) (fk : iv 0 39 k) : ∀ (q : Nat) (x2 : Int32) (h : ph_H), RH z h → iv 0 100 x2 → 100 - x2.toInt < (q : Int) → PX12_run_41 LP31 q k x2 h ∧ QiT z (-2147483648) 2147483647 (FX12_run_41 L31 q k x2 h) := by
  intro q
  induction q with
  | zero =>
    intro x2 h I f mq
    exact mu_zu f mq rfl
  | succ q ih =>
    intro x2 h I f mq
    unfold PX12_run_41 FX12_run_41
    have g9 : iv 0 100 (h 9 (k.toNatClampNeg)) := RHv I 9 _
    have g8 : iv 0 3 (h 8 (k.toNatClampNeg)) := RHv I 8 _
    have g : iv 0 300 (h 0 24) := RHv I 0 24
    have cg := T_canGo I.t g8
    refine sf_n (iv_in fk rfl) (sf_if (fun _ => hL h I) (fun c1 => sf_if (fun c2 => sf_if (fun _ => hL h I) (fun c3 => sf_n (iv_in fk rfl) (sf_n cg.1 (sf_if (fun _ => hL h I) (fun cc => sf_n (iv_in fk rfl) ?_))))) (fun _ => hL h I)))
    have f2 : iv 0 99 x2 := iv_ltl f g9 (nle c1) rfl
    have s := T_kept I g8 (cg.2.2 cc) (iv_lt g c3 rfl)
    refine sf_n s.1 ?_
    exact ih _ _ s.2.1 (iv_add f2 (iv_lit (lo := 1) (hi := 1) (x := 1) rfl) rfl) (mu_up f2 mq rfl)
theorem S_r31 {z : zT} : ∀ (q : Nat) (x1 : Int32) (h : ph_H), RH z h → iv 0 40 x1 → 40 - x1.toInt < (q : Int) → PX12_run_31 q x1 h ∧ QiT z (-2147483648) 2147483647 (FX12_run_31 q x1 h) := by
  intro q
  induction q with
  | zero =>
    intro x1 h I f mq
    exact mu_zu f mq rfl
  | succ q ih =>
    intro x1 h I f mq
    unfold PX12_run_31 FX12_run_31
    have g9 : iv 0 40 (h 0 9) := RHv I 0 9
    have g24 : iv 0 300 (h 0 24) := RHv I 0 24
    have fr := T_free I.t (t := h 0 26) (RHv I 0 26)
    refine sf_if (fun _ => sf_n fr.1 (S_r112 2000 _ _ I fr.2.1 fr.2.2 ?_)) (fun c => ?_)
    · unfold iv at g24
      omega
    · have f2 : iv 0 39 x1 := iv_ltl f g9 (nle c) rfl
      exact S_r41 _ _ x1 (fun h' I' => ih _ _ I' (iv_add f2 (iv_lit (lo := 1) (hi := 1) (x := 1) rfl) rfl) (mu_up f2 mq rfl)) f2 2000 0 h I ⟨by decide, by decide⟩ (by decide)
theorem SX12_run {z : zT} (h : ph_H) (I : IT z h) : PX12_run h ∧ QiT z (-2147483648) 2147483647 (FX12_run h) := by
  have I0 : IT z (hs (hs h 0 0 0) 0 33 0) := by
    obtain ⟨z1, m, i, e⟩ := I
    exact ⟨_, zm_hs m rfl rfl, IMg (k := 0) (i := 33) (IMa 0 0 i rfl rfl) (show iv 0 1 0 from ⟨by decide, by decide⟩) rfl, hz_e⟩
  have b := T_begin I0
  unfold PX12_run FX12_run
  refine sf_n b.1 ?_
  obtain ⟨⟨z1, m, i, e, r⟩, e24⟩ := b.2
  have fz : iv 0 300 (0 : Int32) := ⟨by decide, by decide⟩
  have i2 : IM (hs z1 0 60 0) (hs (hs (FX12_begin (hs (hs h 0 0 0) 0 33 0)) 0 60 0) 0 64 0) := IMs (k := 0) (i := 64) (IMg (k := 0) (i := 60) i fz rfl) (show iv 0 1 0 from ⟨by decide, by decide⟩) rfl
  have k := SX12_keep (z := hs z1 0 60 0) 0 _ i2 fz
  unfold PX12_run_14 FX12_run_14 PX12_run_29 FX12_run_29
  refine sf_n k.1 (S_r31 2000 0 _ ⟨_, zm_hs m rfl rfl, k.2, (hz_i rfl).trans e, RMz_60 r, ?_⟩ ⟨by decide, by decide⟩ (by decide))
  have q24 : hs z1 0 60 0 0 24 = z1 0 24 := hz_i rfl
  have q0 : z1 0 24 = 0 := (IMz i 0 24 rfl).symm.trans e24
  rw [hz_e, q24, q0]
  exact Int.le_refl _
