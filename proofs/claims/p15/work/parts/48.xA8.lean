/-! ONE STEP on both sides -/
def rM (k i : Nat) : Bool := match k with
  | 0 => i == 7 || i == 18 || i == 23 || i == 33 || i == 34
  | 1 => true
  | 2 => true
  | 3 => true
  | 4 => true
  | 5 => true
  | 7 => true
  | 10 => true
  | 11 => true
  | 12 => true
  | 13 => true
  | 14 => true
  | 15 => true
  | 16 => true
  | 17 => true
  | 18 => true
  | 19 => true
  | _ => false
def cM (k i : Nat) : Bool := match k with
  | 15 => i == 10 || i == 11 || i == 12
  | 16 => true
  | 17 => true
  | 18 => true
  | 19 => true
  | 20 => true
  | 21 => true
  | 22 => true
  | 23 => true
  | 24 => true
  | 9 => true
  | 10 => true
  | 12 => true
  | _ => false
theorem RC.congr {h h' g g' : ph_H} (R : RC h g) (hc : ∀ k i, cM k i = true → h' k i = h k i) (hr : ∀ k i, rM k i = true → g' k i = g k i) (h36 : ¬ g 0 33 = 0 → ∀ i, g' 36 i = g 36 i) : RC h' g' := by
  obtain ⟨r1, r2, r3, r4, r5, r6, r7⟩ := R
  have c16 : ∀ i, h' 16 i = h 16 i := fun i => hc _ _ rfl
  have c17 : ∀ i, h' 17 i = h 17 i := fun i => hc _ _ rfl
  have c18 : ∀ i, h' 18 i = h 18 i := fun i => hc _ _ rfl
  have c19 : ∀ i, h' 19 i = h 19 i := fun i => hc _ _ rfl
  have c20 : ∀ i, h' 20 i = h 20 i := fun i => hc _ _ rfl
  have c21 : ∀ i, h' 21 i = h 21 i := fun i => hc _ _ rfl
  have c22 : ∀ i, h' 22 i = h 22 i := fun i => hc _ _ rfl
  have c23 : ∀ i, h' 23 i = h 23 i := fun i => hc _ _ rfl
  have c24 : ∀ i, h' 24 i = h 24 i := fun i => hc _ _ rfl
  have c9 : ∀ i, h' 9 i = h 9 i := fun i => hc _ _ rfl
  have cp : ∀ i, h' 10 i = h 10 i := fun i => hc _ _ rfl
  have c12 : ∀ i, h' 12 i = h 12 i := fun i => hc _ _ rfl
  have f10 : h' 15 10 = h 15 10 := hc _ _ rfl
  have f11 : h' 15 11 = h 15 11 := hc _ _ rfl
  have f12 : h' 15 12 = h 15 12 := hc _ _ rfl
  have g1 : ∀ i, g' 1 i = g 1 i := fun i => hr _ _ rfl
  have g2 : ∀ i, g' 2 i = g 2 i := fun i => hr _ _ rfl
  have g3 : ∀ i, g' 3 i = g 3 i := fun i => hr _ _ rfl
  have g4 : ∀ i, g' 4 i = g 4 i := fun i => hr _ _ rfl
  have g5 : ∀ i, g' 5 i = g 5 i := fun i => hr _ _ rfl
  have g7 : ∀ i, g' 7 i = g 7 i := fun i => hr _ _ rfl
  have g10 : ∀ i, g' 10 i = g 10 i := fun i => hr _ _ rfl
  have g11 : ∀ i, g' 11 i = g 11 i := fun i => hr _ _ rfl
  have g12 : ∀ i, g' 12 i = g 12 i := fun i => hr _ _ rfl
  have g13 : ∀ i, g' 13 i = g 13 i := fun i => hr _ _ rfl
  have g14 : ∀ i, g' 14 i = g 14 i := fun i => hr _ _ rfl
  have g15 : ∀ i, g' 15 i = g 15 i := fun i => hr _ _ rfl
  have g16 : ∀ i, g' 16 i = g 16 i := fun i => hr _ _ rfl
  have g17 : ∀ i, g' 17 i = g 17 i := fun i => hr _ _ rfl
  have g18 : ∀ i, g' 18 i = g 18 i := fun i => hr _ _ rfl
  have g19 : ∀ i, g' 19 i = g 19 i := fun i => hr _ _ rfl
  have e7 : g' 0 7 = g 0 7 := hr _ _ rfl
  have e18 : g' 0 18 = g 0 18 := hr _ _ rfl
  have e23 : g' 0 23 = g 0 23 := hr _ _ rfl
  have e33 : g' 0 33 = g 0 33 := hr _ _ rfl
  have e34 : g' 0 34 = g 0 34 := hr _ _ rfl
  have ek : kn g' = kn g := by unfold kn; rw [e7, e33, e34]
  have ev : ∀ k, vi g' k = vi g k := fun k => by
    unfold vi
    rw [e33, g7]
    by_cases c : g 0 33 = 0
    · rw [if_pos c, if_pos c]
    · rw [if_neg c, if_neg c, h36 c]
  refine ⟨?_, ?_, ?_, ?_, ?_, ?_, ?_⟩
  · simpa only [Rsl, c16, c17, g10, g11] using r1
  · simpa only [Rat, c18, g1, g12] using r2
  · simpa only [Rmd, c19, c20, g13, g14, g15] using r3
  · simpa only [Rth, f10, c21, c22, c23, c24, e18, g16, g17, g18, g19] using r4
  · simpa only [Rin, f11, f12, c12, e23, ek, ev] using r5
  · simpa only [Rpr, c9, cp, g1, g2, g3, g4, g5] using r6
  · simpa only [LV, g2, g10, g11, g14, g15, g16, e18] using r7
theorem op_all {z : zT} {h g : ph_H} {t : Int32} (R : RC h g) (I : IM z g) (ht : iv 0 3 t) (S : S0c t h g) (e12 : ¬ g 12 t.toNatClampNeg = 24) (m1 : h 19 t.toNatClampNeg = 1) (kk : g 2 ((24 * t) + g 12 t.toNatClampNeg).toNatClampNeg = 16 → ¬ g 0 33 = 0 → ¬ g 0 23 = g 0 34) : SIM t (FX3_perform_s t h) (FX12_instruct t ((24 * t) + g 12 t.toNatClampNeg) g) := by
  obtain ⟨p0, p1, p2, p3⟩ := parts R I ht e12
  have e18 := (stands R I ht e12).1
  have ob : iv 0 19 (g 2 ((24 * t) + g 12 t.toNatClampNeg).toNatClampNeg) := R.2.2.2.2.2.2.2.2 _
  generalize hi : (24 * t) + g 12 t.toNatClampNeg = i at *
  have hx : g 2 i.toNatClampNeg = 0 ∨ g 2 i.toNatClampNeg = 1 ∨ g 2 i.toNatClampNeg = 2 ∨ g 2 i.toNatClampNeg = 3 ∨ g 2 i.toNatClampNeg = 4 ∨ g 2 i.toNatClampNeg = 5 ∨ g 2 i.toNatClampNeg = 6 ∨ g 2 i.toNatClampNeg = 7 ∨ g 2 i.toNatClampNeg = 8 ∨ g 2 i.toNatClampNeg = 9 ∨ g 2 i.toNatClampNeg = 10 ∨ g 2 i.toNatClampNeg = 11 ∨ g 2 i.toNatClampNeg = 12 ∨ g 2 i.toNatClampNeg = 13 ∨ g 2 i.toNatClampNeg = 14 ∨ g 2 i.toNatClampNeg = 15 ∨ g 2 i.toNatClampNeg = 16 ∨ g 2 i.toNatClampNeg = 17 ∨ g 2 i.toNatClampNeg = 18 ∨ g 2 i.toNatClampNeg = 19 := by
    simp only [← Int32.toInt_inj]
    have k0 : (0 : Int32).toInt = 0 := by decide
    have k1 : (1 : Int32).toInt = 1 := by decide
    have k2 : (2 : Int32).toInt = 2 := by decide
    have k3 : (3 : Int32).toInt = 3 := by decide
    have k4 : (4 : Int32).toInt = 4 := by decide
    have k5 : (5 : Int32).toInt = 5 := by decide
    have k6 : (6 : Int32).toInt = 6 := by decide
    have k7 : (7 : Int32).toInt = 7 := by decide
    have k8 : (8 : Int32).toInt = 8 := by decide
    have k9 : (9 : Int32).toInt = 9 := by decide
    have k10 : (10 : Int32).toInt = 10 := by decide
    have k11 : (11 : Int32).toInt = 11 := by decide
    have k12 : (12 : Int32).toInt = 12 := by decide
    have k13 : (13 : Int32).toInt = 13 := by decide
    have k14 : (14 : Int32).toInt = 14 := by decide
    have k15 : (15 : Int32).toInt = 15 := by decide
    have k16 : (16 : Int32).toInt = 16 := by decide
    have k17 : (17 : Int32).toInt = 17 := by decide
    have k18 : (18 : Int32).toInt = 18 := by decide
    have k19 : (19 : Int32).toInt = 19 := by decide
    unfold iv at ob
    omega
  rcases hx with o | o | o | o | o | o | o | o | o | o | o | o | o | o | o | o | o | o | o | o
  · exact op_0 R I ht S e18 p0 p1 p2 p3 o
  · exact op_1 R I ht S e18 p0 p1 p2 p3 o
  · exact op_2 R I ht S e18 p0 p1 p2 p3 o
  · exact op_3 R I ht S e18 p0 p1 p2 p3 o
  · exact op_4 R I ht S e18 p0 p1 p2 p3 o
  · exact op_5 R I ht S e18 p0 p1 p2 p3 o
  · exact op_6 R I ht S e18 p0 p1 p2 p3 o
  · exact op_7 R I ht S e18 p0 p1 p2 p3 o
  · exact op_8 R I ht S e18 p0 p1 p2 p3 o
  · exact op_9 R I ht S e18 p0 p1 p2 p3 o
  · exact op_10 R I ht S e18 p0 p1 p2 p3 o
  · exact op_11 R I ht S e18 p0 p1 p2 p3 o
  · exact op_12 R I ht S e18 p0 p1 p2 p3 o
  · exact op_13 R I ht S e18 p0 p1 p2 p3 o
  · exact op_14 R I ht S e18 m1 p0 p1 p2 p3 o
  · exact op_15 R I ht S e18 p0 p1 p2 p3 o
  · exact op_16 R I ht S e18 (kk o) p0 p1 p2 p3 o
  · exact op_17 R I ht S e18 p0 p1 p2 p3 o
  · exact op_18 R I ht S e18 p0 p1 p2 p3 o
  · exact op_19 R I ht S e18 p0 p1 p2 p3 o
/-- does the step ask for an INPUT that isn't known -/
def asksU (t : Int32) (g : ph_H) : Prop := g 15 t.toNatClampNeg < 0 ∧ g 2 ((24 * t) + g 12 t.toNatClampNeg).toNatClampNeg = 16 ∧ ¬ g 0 33 = 0 ∧ g 0 23 = g 0 34
theorem cg_true {t : Int32} {g : ph_H} (c : ¬ FX12_canGo t g = 0) : ¬ g 13 t.toNatClampNeg = 0 ∧ ¬ g 12 t.toNatClampNeg = 24 ∧ g 14 t.toNatClampNeg < 0 := by
  unfold FX12_canGo at c
  split at c
  · exact absurd rfl c
  · rename_i a
    split at c
    · exact absurd rfl c
    · rename_i b
      split at c
      · rename_i d
        exact ⟨a, b, d⟩
      · exact absurd rfl c
theorem mood_of {h g : ph_H} {t : Int32} (R : RC h g) (ht : iv 0 3 t) (c : ¬ FX12_canGo t g = 0) : (h 19 t.toNatClampNeg = 1 ∧ g 15 t.toNatClampNeg < 0) ∨ (h 19 t.toNatClampNeg = 3 ∧ ¬ g 15 t.toNatClampNeg < 0 ∧ g 15 t.toNatClampNeg = h 20 t.toNatClampNeg ∧ iv 0 11 (g 15 t.toNatClampNeg)) := by
  obtain ⟨c1, c2, c3⟩ := cg_true c
  rcases R.2.2.1 _ (t_lt ht) with ⟨m, st, as, wk⟩ | ⟨m, st, as, wk⟩ | ⟨m, st, as, q, wk⟩ | ⟨m, st, as, wk, q⟩
  · exact absurd st c1
  · exact Or.inl ⟨m, by rw [wk]; decide⟩
  · rw [as] at c3
    unfold iv at q
    exact absurd c3 (nn_t q.1)
  · refine Or.inr ⟨m, ?_, wk, by rw [wk]; exact q⟩
    unfold iv at q
    rw [wk]
    exact nn_t q.1
/-- the step, not asking -/
theorem go_eq {z : zT} {h g : ph_H} {t : Int32} (R : RC h g) (I : IM z g) (ht : iv 0 3 t) (c : ¬ FX12_canGo t g = 0) (nf : g 0 25 = 0) (na : ¬ asksU t g) : (FX3_go_s t h).1 = FX12_step t g 0 25 ∧ RC (FX3_go_s t h).2 (FX12_step t g) ∧ EF (FX3_go_s t h).2 (FX12_step t g) ∧ FL (FX12_step t g) := by
  have c' : ¬ FX3_canGo_s t h = 0 := by rw [canGo_eq R I ht]; exact c
  obtain ⟨c1, c2, c3⟩ := cg_true c
  have e18 := (stands R I ht c2).1
  have Rh : RC (hs (hs (hs (hs (hs h 15 14 (-2)) 15 15 (-2)) 15 16 0) 15 17 0) 15 13 (h 18 t.toNatClampNeg + 1)) (hs (hs (hs (hs (hs (hs g 0 27 (g 12 t.toNatClampNeg)) 0 28 (g 2 ((24 * t) + g 12 t.toNatClampNeg).toNatClampNeg)) 0 29 (-2)) 0 30 (-2)) 0 31 0) 0 32 (-1)) := (((((((((((R.cs (by decide)).cs (by decide)).cs (by decide)).cs (by decide)).cs (by decide)).rs rfl).rs rfl).rs rfl).rs rfl).rs rfl).rs rfl)
  have I0 : IM z (hs (hs (hs (hs (hs (hs g 0 27 (g 12 t.toNatClampNeg)) 0 28 (g 2 ((24 * t) + g 12 t.toNatClampNeg).toNatClampNeg)) 0 29 (-2)) 0 30 (-2)) 0 31 0) 0 32 (-1)) := IMs (IMs (IMs (IMs (IMs (IMs I (k := 0) (i := 27) (iv_any _) rfl) (k := 0) (i := 28) (iv_any _) rfl) (k := 0) (i := 29) (iv_any _) rfl) (k := 0) (i := 30) (iv_any _) rfl) (k := 0) (i := 31) (iv_any _) rfl) (k := 0) (i := 32) (iv_any _) rfl
  unfold FX3_go_s FX3_go_s_59
  rw [if_neg c']
  rcases mood_of R ht c with ⟨m, w⟩ | ⟨m, w, wq, q⟩
  · rw [if_neg (by rw [m]; decide)]
    have st : FX12_step t g = FX12_step_148 t ((24 * t) + g 12 t.toNatClampNeg) (hs (hs (hs (hs (hs (hs g 0 27 (g 12 t.toNatClampNeg)) 0 28 (g 2 ((24 * t) + g 12 t.toNatClampNeg).toNatClampNeg)) 0 29 (-2)) 0 30 (-2)) 0 31 0) 0 32 (-1)) := by
      unfold FX12_step
      rw [if_pos w]
      by_cases o : g 2 ((24 * t) + g 12 t.toNatClampNeg).toNatClampNeg = 16
      · rw [if_pos o]
        by_cases k : g 0 33 = 0
        · rw [if_pos k]
        · rw [if_neg k, if_neg (fun e => na ⟨w, o, k, e⟩)]
      · rw [if_neg o]
    have S : S0c t (hs (hs (hs (hs (hs h 15 14 (-2)) 15 15 (-2)) 15 16 0) 15 17 0) 15 13 (h 18 t.toNatClampNeg + 1)) (hs (hs (hs (hs (hs (hs g 0 27 (g 12 t.toNatClampNeg)) 0 28 (g 2 ((24 * t) + g 12 t.toNatClampNeg).toNatClampNeg)) 0 29 (-2)) 0 30 (-2)) 0 31 0) 0 32 (-1)) := by simp [S0c, hs_get]
    have P := op_all (z := z) (t := t) Rh I0 ht S (by simpa [hs_get] using c2) (by simpa [hs_get] using m) (fun o k e => by
      simp [hs_get] at o k e
      exact na ⟨w, o, k, e⟩)
    have e : (24 * t) + (hs (hs (hs (hs (hs (hs g 0 27 (g 12 t.toNatClampNeg)) 0 28 (g 2 ((24 * t) + g 12 t.toNatClampNeg).toNatClampNeg)) 0 29 (-2)) 0 30 (-2)) 0 31 0) 0 32 (-1)) 12 t.toNatClampNeg = (24 * t) + g 12 t.toNatClampNeg := by simp [hs_get]
    rw [e] at P
    rw [st]
    unfold FX12_step_148 FX12_step_154
    unfold SIM at P
    obtain ⟨pp1, pp2, pp3, pp4⟩ := P
    refine ⟨?_, (pp2.rs rfl).rs rfl, ?_, ?_⟩
    · rw [pp1]
      simp [hs_get]
    · simpa [EF, hs_get] using pp3
    · simpa [FL, PLp, hs_get] using pp4
  · rw [if_pos m]
    have lv := (R.2.2.2.2.2.2.2.1 _ (t_lt ht)).2
    have st : FX12_step t g = FX12_step_154 t (FX12_goTo t (g 12 t.toNatClampNeg + 1) (hs (hs (hs (hs (hs (hs (hs (hs (hs (hs g 0 27 (g 12 t.toNatClampNeg)) 0 28 (g 2 ((24 * t) + g 12 t.toNatClampNeg).toNatClampNeg)) 0 29 (-2)) 0 30 (-2)) 0 31 0) 0 32 (-1)) 17 (g 15 t.toNatClampNeg).toNatClampNeg t) 0 31 1) 0 32 (g 15 t.toNatClampNeg)) 15 t.toNatClampNeg (-1))) := by
      unfold FX12_step FX12_step_110
      rw [if_neg w]
    rw [st]
    unfold FX3_rise_s FX3_own_s
    have e20 : (hs (hs (hs (hs (hs h 15 14 (-2)) 15 15 (-2)) 15 16 0) 15 17 0) 15 13 (h 18 t.toNatClampNeg + 1)) 20 t.toNatClampNeg = g 15 t.toNatClampNeg := by
      rw [wq]
      simp [hs_get]
    rw [e20]
    have R1 := (Rh.rise I0 (t_lt ht) (by simpa [hs_get] using m)).own (x := (g 15 t.toNatClampNeg).toNatClampNeg) (c := t) (r := t) (Or.inr ⟨rfl, ht⟩)
    have R2 := (((R1.cs (i := 16) (v := 1) (by decide)).cs (i := 17) (v := g 15 t.toNatClampNeg) (by decide)).rs (i := 31) (v := 1) rfl).rs (i := 32) (v := g 15 t.toNatClampNeg) rfl
    rw [hs_comm _ 15 _ _ 17 _ _ (Or.inl (by decide)), hs_comm _ 15 _ _ 0 _ _ (Or.inl (by decide)), hs_comm _ 15 _ _ 0 _ _ (Or.inl (by decide))] at R2
    have F := fin_go (t := t) (a := g 12 t.toNatClampNeg + 1) R2 (by simp [EF, hs_get]) (by simpa [hs_get] using nf) (by simp [PLp, hs_get]) (by simp [hs_get, e18])
    unfold SIM at F
    obtain ⟨pp1, pp2, pp3, pp4⟩ := F
    unfold FX12_step_154
    refine ⟨?_, (pp2.rs rfl).rs rfl, ?_, ?_⟩
    · rw [pp1]
      simp [hs_get]
    · simpa [EF, hs_get] using pp3
    · simpa [FL, PLp, hs_get] using pp4
/-- the step that asks for an INPUT that isn't known -/
theorem go_asks {z : zT} {h g : ph_H} {t : Int32} (R : RC h g) (I : IM z g) (ht : iv 0 3 t) (c : ¬ FX12_canGo t g = 0) (a : asksU t g) : (FX3_go_s t h).1 = 7 ∧ FX12_step t g = hs (hs (hs (hs (hs (hs (hs g 0 27 (g 12 t.toNatClampNeg)) 0 28 (g 2 ((24 * t) + g 12 t.toNatClampNeg).toNatClampNeg)) 0 29 (-2)) 0 30 (-2)) 0 31 0) 0 32 (-1)) 0 35 1 := by
  have c' : ¬ FX3_canGo_s t h = 0 := by rw [canGo_eq R I ht]; exact c
  obtain ⟨c1, c2, c3⟩ := cg_true c
  obtain ⟨a1, a2, a3, a4⟩ := a
  obtain ⟨p0, p1, p2, p3⟩ := parts R I ht c2
  refine ⟨?_, ?_⟩
  · unfold FX3_go_s
    rw [if_neg c']
    rcases mood_of R ht c with ⟨m, w⟩ | ⟨m, w, wq, q⟩
    · rw [if_neg (by rw [m]; decide)]
      have e : ∀ v, FX5_firstPart_t t v (hs (hs (hs (hs (hs h 15 14 (-2)) 15 15 (-2)) 15 16 0) 15 17 0) 15 13 (h 18 t.toNatClampNeg + 1)) = FX5_firstPart_t t v h := fun v => rfl
      have e1 : (hs (hs (hs (hs (hs h 15 14 (-2)) 15 15 (-2)) 15 16 0) 15 17 0) 15 13 (h 18 t.toNatClampNeg + 1)) 18 t.toNatClampNeg = h 18 t.toNatClampNeg := by simp [hs_get]
      have e2 : ∀ i, (hs (hs (hs (hs (hs h 15 14 (-2)) 15 15 (-2)) 15 16 0) 15 17 0) 15 13 (h 18 t.toNatClampNeg + 1)) 10 i = h 10 i := fun i => by simp [hs_get]
      rw [pf_16 (h := (hs (hs (hs (hs (hs h 15 14 (-2)) 15 15 (-2)) 15 16 0) 15 17 0) 15 13 (h 18 t.toNatClampNeg + 1))) (a := g 3 ((24 * t) + g 12 t.toNatClampNeg).toNatClampNeg) (b := g 4 ((24 * t) + g 12 t.toNatClampNeg).toNatClampNeg) (c := g 5 ((24 * t) + g 12 t.toNatClampNeg).toNatClampNeg) (by rw [e1, e, e2, p0, a2]) (by rw [e1, e, e2, p1]) (by rw [e1, e, e2, p2]) (by rw [e1, e, e2, p3])]
      unfold FX3_takeInput_s
      obtain ⟨i1, i2, i3, i4⟩ := R.2.2.2.2.1
      have f1 : (hs (hs (hs (hs (hs h 15 14 (-2)) 15 15 (-2)) 15 16 0) 15 17 0) 15 13 (h 18 t.toNatClampNeg + 1)) 15 11 = kn g := by rw [← i2]; simp [hs_get]
      have f2 : (hs (hs (hs (hs (hs h 15 14 (-2)) 15 15 (-2)) 15 16 0) 15 17 0) 15 13 (h 18 t.toNatClampNeg + 1)) 15 12 = g 0 23 := by rw [← i1]; simp [hs_get]
      have f3 : kn g ≤ g 0 23 := by
        unfold kn
        rw [if_neg a3, a4]
        rw [Int32.le_iff_toInt_le]
        omega
      rw [f1, f2, if_pos f3]
      rfl
    · exact absurd a1 w
  · unfold FX12_step
    rw [if_pos a1, if_pos a2, if_neg a3, if_pos a4]
theorem go_no {z : zT} {h g : ph_H} {t : Int32} (R : RC h g) (I : IM z g) (ht : iv 0 3 t) (c : FX12_canGo t g = 0) : FX3_go_s t h = (-1, h) := by
  unfold FX3_go_s
  rw [canGo_eq R I ht, if_pos c]
