/-! THE SLEEPERS haven't ended; cells change where they are written alone -/
def NW (g : ph_H) : Prop := ∀ t, t < 4 → 0 ≤ (g 14 t).toInt → ¬ g 12 t = 24
theorem w391_14 : ∀ (q : Nat) (a x : Int32) (g : ph_H) (u : Nat), FX12_work_391 q a x g 14 u = g 14 u ∨ FX12_work_391 q a x g 14 u = -1
  | 0, a, x, g, u => Or.inl rfl
  | q + 1, a, x, g, u => by
    unfold FX12_work_391 FX12_work_435
    split
    · exact Or.inl rfl
    · split
      · rcases w391_14 q a (x + 1) (hs (hs g 15 x.toNatClampNeg (g 14 x.toNatClampNeg)) 14 x.toNatClampNeg (-1)) u with e | e
        · rw [e]
          by_cases c : u = x.toNatClampNeg
          · subst c
            rw [hs_self]
            exact Or.inr rfl
          · rw [hs_o (fun w => c w.2), hs_o (by simp)]
            exact Or.inl rfl
        · exact Or.inr e
      · exact w391_14 q a (x + 1) g u
def S14 (g G : ph_H) : Prop := ∀ u, G 14 u = g 14 u ∨ G 14 u = -1
theorem S14_if {g a b : ph_H} {c : Prop} [Decidable c] (x : c → S14 g a) (y : ¬ c → S14 g b) : S14 g (if c then a else b) := by
  by_cases d : c
  · rw [if_pos d]
    exact x d
  · rw [if_neg d]
    exact y d
theorem S14_r (g : ph_H) : S14 g g := fun _ => Or.inl rfl
theorem S14_o {g G : ph_H} {k i : Nat} {v : Int32} (S : S14 g G) (n : ¬ k = 14) : S14 g (hs G k i v) := fun u => by
  rw [hs_o (fun e => n e.1.symm)]
  exact S u
theorem S14_nt {g G : ph_H} {k m : Int32} (S : S14 g G) : S14 g (FX12_newThing k m G).2 := fun u => by
  rw [frX_FX12_newThing (h0 := G) k m G (EQ_r G) 14 u rfl]
  exact S u
theorem work_14 {t o a b c : Int32} {g : ph_H} (n : ¬ o = 14) : S14 g (FX12_work t o a b c g) := by
  have e : S14 g (FX12_work_391 2000 a 0 (hs (hs g 0 31 3) 0 32 (g 11 a.toNatClampNeg))) := fun u => by
    rcases w391_14 2000 a 0 (hs (hs g 0 31 3) 0 32 (g 11 a.toNatClampNeg)) u with e | e
    · left
      rw [e, hs_o (by simp), hs_o (by simp)]
    · exact Or.inr e
  unfold FX12_work FX12_work_88 FX12_work_111 FX12_work_134 FX12_work_152 FX12_work_155 FX12_work_212 FX12_set
  repeat' (with_reducible refine S14_if (fun q => ?_) (fun q => ?_))
  all_goals first | exact S14_r g | exact e | contradiction | exact S14_o (S14_o (S14_r g) (by decide)) (by decide) | exact S14_o (S14_o (S14_nt (S14_r g)) (by decide)) (by decide) | exact S14_o (S14_o (S14_o (S14_r g) (by decide)) (by decide)) (by decide)
def lo12 (a : Int32) : Prop := 12 ≤ a.toNatClampNeg
theorem loc12 {t : Int32} (x : Int32) (g : ph_H) (ht : iv 0 3 t) : lo12 (FX12_local t x g) := by
  have m : iv 0 3 (FX12_modulo x 4) := modulo_iv (m := 4) rfl
  have k12 : (12 : Int32).toInt = 12 := by decide
  have k4 : (4 : Int32).toInt = 4 := by decide
  unfold iv at ht m
  unfold lo12 FX12_local
  have e1 : (4 * t).toInt = 4 * t.toInt := by rw [ti_mul (by rw [k4]; omega) (by rw [k4]; omega), k4]
  have e2 : (12 + 4 * t).toInt = 12 + 4 * t.toInt := by rw [ti_add (by omega) (by omega), k12, e1]
  have e3 : (12 + 4 * t + FX12_modulo x 4).toInt = 12 + 4 * t.toInt + (FX12_modulo x 4).toInt := by rw [ti_add (by omega) (by omega), e2]
  have : ((12 + 4 * t + FX12_modulo x 4).toNatClampNeg : Int) = (12 + 4 * t + FX12_modulo x 4).toInt := by
    rw [← Int32.toNat_toInt]
    omega
  omega
def SCc (g G : ph_H) : Prop := ∀ k, k < 12 → G 10 k = g 10 k ∧ G 11 k = g 11 k
theorem SCc_set {a v w : Int32} {g G : ph_H} (S : SCc g G) (n : lo12 a) : SCc g (FX12_set a v w G) := fun k hk => by
  have : ¬ k = a.toNatClampNeg := by unfold lo12 at n; omega
  unfold FX12_set
  rw [hs_o (by simp), hs_o (fun e => this e.2), hs_o (fun e => this e.2), hs_o (by simp)]
  exact S k hk
theorem SCc_o {g G : ph_H} {k i : Nat} {v : Int32} (S : SCc g G) (n : ¬ k = 10) (m : ¬ k = 11) : SCc g (hs G k i v) := fun j hj => by
  rw [hs_o (fun e => n e.1.symm), hs_o (fun e => m e.1.symm)]
  exact S j hj
theorem SCc_if {g a b : ph_H} {c : Prop} [Decidable c] (x : c → SCc g a) (y : ¬ c → SCc g b) : SCc g (if c then a else b) := by
  by_cases d : c
  · rw [if_pos d]
    exact x d
  · rw [if_neg d]
    exact y d
theorem SCc_r (g : ph_H) : SCc g g := fun _ _ => ⟨rfl, rfl⟩
theorem SCc_nt {g G : ph_H} {k m : Int32} (S : SCc g G) : SCc g (FX12_newThing k m G).2 := fun j hj => by
  rw [frY_FX12_newThing (h0 := G) k m G (EQ_r G) 10 j rfl, frY_FX12_newThing (h0 := G) k m G (EQ_r G) 11 j rfl]
  exact S j hj
theorem work_SCc {t o a b c : Int32} {g : ph_H} (n : lo12 a) : SCc g (FX12_work t o a b c g) := by
  have e : SCc g (FX12_work_391 2000 a 0 (hs (hs g 0 31 3) 0 32 (g 11 a.toNatClampNeg))) := fun j hj => by
    have f := frY_FX12_work_391 (h0 := hs (hs g 0 31 3) 0 32 (g 11 a.toNatClampNeg)) 2000 a 0 _ (EQ_r _)
    rw [f 10 j rfl, f 11 j rfl, hs_o (by simp), hs_o (by simp), hs_o (by simp), hs_o (by simp)]
    exact ⟨rfl, rfl⟩
  unfold FX12_work FX12_work_88 FX12_work_111 FX12_work_134 FX12_work_152 FX12_work_155 FX12_work_212
  repeat' (with_reducible refine SCc_if (fun q => ?_) (fun q => ?_))
  all_goals first | exact SCc_r g | exact e | exact SCc_set (SCc_r g) n | exact SCc_set (SCc_nt (SCc_r g)) n | exact SCc_set (SCc_o (SCc_r g) (by decide) (by decide)) n | exact SCc_o (SCc_o (SCc_r g) (by decide) (by decide)) (by decide) (by decide) | exact SCc_o (SCc_o (SCc_o (SCc_r g) (by decide) (by decide)) (by decide) (by decide)) (by decide) (by decide) | exact SCc_o (SCc_o (SCc_o (SCc_o (SCc_r g) (by decide) (by decide)) (by decide) (by decide)) (by decide) (by decide)) (by decide) (by decide)
def SW (g G : ph_H) : Prop := ∀ k, k < 12 → (G 10 k = g 10 k ∧ G 11 k = g 11 k) ∨ (G 0 30).toInt = k
theorem SW_if {g a b : ph_H} {c : Prop} [Decidable c] (x : c → SW g a) (y : ¬ c → SW g b) : SW g (if c then a else b) := by
  by_cases d : c
  · rw [if_pos d]
    exact x d
  · rw [if_neg d]
    exact y d
theorem SCc.sw {g G : ph_H} (S : SCc g G) : SW g G := fun k hk => Or.inl (S k hk)
theorem plain_SW {t i a b : Int32} {g G : ph_H} (S : SCc g G) (n : lo12 a) : SW g (FX12_workPlain t i a b G) := by
  have e : SW g (FX12_set (FX12_modulo (G 3 i.toNatClampNeg) 12) (G 10 b.toNatClampNeg) (G 11 b.toNatClampNeg) (hs G 0 30 (FX12_modulo (G 3 i.toNatClampNeg) 12))) := fun k hk => by
    have m : iv 0 11 (FX12_modulo (G 3 i.toNatClampNeg) 12) := modulo_iv (m := 12) rfl
    have mn := iv_nat m rfl
    unfold FX12_set
    by_cases c : k = (FX12_modulo (G 3 i.toNatClampNeg) 12).toNatClampNeg
    · right
      rw [hs_o (by simp), hs_o (by simp), hs_self]
      omega
    · left
      rw [hs_o (by simp), hs_o (fun e => c e.2), hs_o (by simp), hs_o (fun e => c e.2), hs_o (by simp), hs_o (by simp)]
      exact S k hk
  unfold FX12_workPlain FX12_workPlain_116 FX12_workPlain_153 FX12_workPlain_191 FX12_workPlain_206 FX12_workPlain_219 FX12_workPlain_222 FX12_workPlain_256 FX12_workPlain_259
  repeat' (with_reducible refine SW_if (fun q => ?_) (fun q => ?_))
  all_goals first | exact S.sw | exact e | exact (SCc_set S n).sw | exact (SCc_set (SCc_o S (by decide) (by decide)) n).sw | exact (SCc_set (SCc_nt S) n).sw | exact (SCc_o (SCc_set S n) (by decide) (by decide)).sw | exact (SCc_o (SCc_o (SCc_o S (by decide) (by decide)) (by decide) (by decide)) (by decide) (by decide)).sw
theorem goTo_o (t v : Int32) (g : ph_H) (k i : Nat) (n : ¬ (k = 12 ∧ i = t.toNatClampNeg)) : FX12_goTo t v g k i = g k i := by
  unfold FX12_goTo FX12_goTo_19
  repeat' split
  all_goals rw [hs_o n]
/-- what a step of t keeps -/
def KS' (t : Int32) (g G : ph_H) : Prop := (∀ u, ¬ u = t.toNatClampNeg → G 12 u = g 12 u ∧ (G 14 u = g 14 u ∨ G 14 u = -1)) ∧ ((G 14 t.toNatClampNeg = g 14 t.toNatClampNeg ∨ G 14 t.toNatClampNeg = -1) ∨ G 12 t.toNatClampNeg = g 12 t.toNatClampNeg) ∧ SW g G ∧ (0 < (G 0 25).toInt → SCc g G)
theorem ins_base {t i b c x6 s0 : Int32} {a : Int32} {g : ph_H} (n : lo12 a) (f : (g 0 25).toInt ≤ 0) : KS' t g (FX12_instruct_177 t i a b c x6 s0 g) := by
  unfold FX12_instruct_177 FX12_instruct_195 FX12_instruct_204 FX12_instruct_251
  generalize e1 : FX12_work t (g 2 i.toNatClampNeg) a b c g = G1
  have w := frW_FX12_work (h0 := g) t (g 2 i.toNatClampNeg) a b c g (EQ_r g)
  have p := frX_FX12_workPlain (h0 := G1) t i a b G1 (EQ_r G1)
  have S1 : SCc g G1 := by rw [← e1]; exact work_SCc n
  have S2 := plain_SW (t := t) (i := i) (b := b) S1 n
  rw [e1] at w
  have p2 : FX12_workPlain t i a b G1 2 i.toNatClampNeg = g 2 i.toNatClampNeg := (p 2 _ rfl).trans (w 2 _ rfl)
  have p12 : ∀ u, FX12_workPlain t i a b G1 12 u = g 12 u := fun u => (p 12 u rfl).trans (w 12 u rfl)
  have f25 : FX12_workPlain t i a b G1 0 25 = g 0 25 := (p 0 25 rfl).trans (w 0 25 rfl)
  have p14 : ∀ u, FX12_workPlain t i a b G1 14 u = G1 14 u := fun u => p 14 u rfl
  generalize FX12_workPlain t i a b G1 = G2 at *
  have fin : (∀ u, G2 14 u = g 14 u ∨ G2 14 u = -1) → ∀ v, KS' t g (FX12_goTo t v G2) := fun q v => by
    refine ⟨fun u hu => ?_, ?_, fun k hk => ?_, fun w => ?_⟩
    · rw [goTo_o _ _ _ _ _ (fun w => hu w.2), goTo_o _ _ _ _ _ (by simp), p12]
      exact ⟨rfl, q u⟩
    · left
      rw [goTo_o _ _ _ _ _ (by simp)]
      exact q _
    · rw [goTo_o _ _ _ _ _ (by simp), goTo_o _ _ _ _ _ (by simp), goTo_o _ _ _ _ _ (by simp)]
      exact S2 k hk
    · rw [goTo_o _ _ _ _ _ (by simp), f25] at w
      omega
  by_cases o : g 2 i.toNatClampNeg = 14
  · rw [p2, if_pos o]
    refine ⟨fun u hu => ⟨p12 u, ?_⟩, Or.inr (p12 _), S2, fun w => ?_⟩
    · left
      rw [p14, ← e1, o]
      unfold FX12_work
      simp (decide := true) only [↓reduceIte]
      rw [hs_o (by simp), hs_o (by simp), hs_o (fun w => hu w.2), hs_o (by simp)]
    · rw [f25] at w
      omega
  · rw [p2, if_neg o]
    have q : ∀ u, G2 14 u = g 14 u ∨ G2 14 u = -1 := fun u => by
      rw [p14, ← e1]
      exact work_14 (t := t) (a := a) (b := b) (c := c) (g := g) o u
    repeat' split
    all_goals exact fin q _
theorem KS_c {t : Int32} {g g' G G' : ph_H} (K : KS' t g G) (a : ∀ k i, (k = 10 ∨ k = 11 ∨ k = 12 ∨ k = 14) → g' k i = g k i) (b : ∀ k i, (k = 10 ∨ k = 11 ∨ k = 12 ∨ k = 14 ∨ (k = 0 ∧ (i = 25 ∨ i = 30))) → G' k i = G k i) : KS' t g' G' := by
  obtain ⟨k1, k2, k3, k4⟩ := K
  refine ⟨fun u hu => ?_, ?_, fun k hk => ?_, fun w k hk => ?_⟩
  · rw [a 12 u (by omega), a 14 u (by omega), b 12 u (by omega), b 14 u (by omega)]
    exact k1 u hu
  · rw [a 12 _ (by omega), a 14 _ (by omega), b 12 _ (by omega), b 14 _ (by omega)]
    exact k2
  · rw [a 10 k (by omega), a 11 k (by omega), b 10 k (by omega), b 11 k (by omega), b 0 30 (by omega)]
    exact k3 k hk
  · rw [b 0 25 (by omega)] at w
    rw [a 10 k (by omega), a 11 k (by omega), b 10 k (by omega), b 11 k (by omega)]
    exact k4 w k hk
theorem KS_r (t : Int32) (g : ph_H) : KS' t g g := ⟨fun _ _ => ⟨rfl, Or.inl rfl⟩, Or.inl (Or.inl rfl), (SCc_r g).sw, fun _ => SCc_r g⟩
theorem KS_0 {t : Int32} {g G : ph_H} (e : ∀ k i, (k = 10 ∨ k = 11 ∨ k = 12 ∨ k = 14) → G k i = g k i) : KS' t g G := by
  have S : SCc g G := fun k hk => ⟨e 10 k (by omega), e 11 k (by omega)⟩
  exact ⟨fun u hu => ⟨e 12 u (by omega), Or.inl (e 14 u (by omega))⟩, Or.inl (Or.inl (e 14 _ (by omega))), S.sw, fun _ => S⟩
theorem KS_go {t v : Int32} {g G : ph_H} (e : ∀ k i, (k = 10 ∨ k = 11 ∨ k = 12 ∨ k = 14) → G k i = g k i) : KS' t g (FX12_goTo t v G) := by
  have S : SCc g (FX12_goTo t v G) := fun k hk => by
    rw [goTo_o _ _ _ _ _ (by simp), goTo_o _ _ _ _ _ (by simp)]
    exact ⟨e 10 k (by omega), e 11 k (by omega)⟩
  refine ⟨fun u hu => ?_, Or.inl (Or.inl ?_), S.sw, fun _ => S⟩
  · rw [goTo_o _ _ _ _ _ (fun w => hu w.2), goTo_o _ _ _ _ _ (by simp)]
    exact ⟨e 12 u (by omega), Or.inl (e 14 u (by omega))⟩
  · rw [goTo_o _ _ _ _ _ (by simp)]
    exact e 14 _ (by omega)
theorem ins_KS {t i : Int32} {g : ph_H} (ht : iv 0 3 t) : KS' t g (FX12_instruct t i g) := by
  have k0 : (0 : Int32).toInt = 0 := by decide
  have A : ∀ (b c s0 : Int32) (G : ph_H), KS' t G (FX12_instruct_102 t i (FX12_local t (g 3 i.toNatClampNeg) g) b c s0 G) := fun b c s0 G => by
    have n := loc12 (g 3 i.toNatClampNeg) g ht
    have B : ∀ x6 y, s0 ≤ 0 → KS' t G (FX12_instruct_177 t i (FX12_local t (g 3 i.toNatClampNeg) g) b c x6 y (hs G 0 25 s0)) := fun x6 y l => KS_c (ins_base n (by rw [hs_self]; rw [Int32.le_iff_toInt_le, k0] at l; exact l)) (fun k j q => (hs_o (by omega)).symm) (fun _ _ _ => rfl)
    unfold FX12_instruct_102 FX12_instruct_144 FX12_instruct_148 FX12_instruct_149
    split
    · rename_i l
      repeat' split
      all_goals exact B _ _ l
    · exact ⟨fun u hu => by rw [hs_o (by simp), hs_o (by simp)]; exact ⟨rfl, Or.inl rfl⟩, Or.inl (Or.inl (hs_o (by simp))), (SCc_o (SCc_r G) (by decide) (by decide)).sw, fun _ => SCc_o (SCc_r G) (by decide) (by decide)⟩
  unfold FX12_instruct FX12_instruct_98
  repeat' split
  all_goals exact KS_c (A _ _ _ _) (fun k j q => (hs_o (by omega)).symm) (fun _ _ _ => rfl)
theorem step_KS {t : Int32} {g : ph_H} (ht : iv 0 3 t) : KS' t g (FX12_step t g) := by
  have A : ∀ (i : Int32) (G : ph_H), KS' t G (FX12_step_148 t i G) := fun i G => by
    unfold FX12_step_148 FX12_step_154
    exact KS_c (ins_KS ht) (fun _ _ _ => rfl) (fun k j q => by rw [hs_o (by omega), hs_o (by omega)])
  have Z : ∀ G : ph_H, (∀ k j, ¬ k = 0 → G k j = g k j) → ∀ i, KS' t g (FX12_step_148 t i G) := fun G e i => KS_c (A i G) (fun k j q => (e k j (by omega)).symm) (fun _ _ _ => rfl)
  unfold FX12_step
  split
  · split
    · split
      · exact Z _ (fun k j q => by simp only [hs_get, q, false_and, if_false]) _
      · split
        · exact KS_0 (fun k j q => by rw [hs_o (by omega), hs_o (by omega), hs_o (by omega), hs_o (by omega), hs_o (by omega), hs_o (by omega), hs_o (by omega)])
        · exact Z _ (fun k j q => by simp only [hs_get, q, false_and, if_false]) _
    · exact Z _ (fun k j q => by simp only [hs_get, q, false_and, if_false]) _
  · unfold FX12_step_110 FX12_step_154
    refine KS_c (KS_go (g := g) (v := g 12 t.toNatClampNeg + 1) ?_) (fun _ _ _ => rfl) (fun k j q => by rw [hs_o (by omega), hs_o (by omega)])
    intro k j q
    rw [hs_o (by omega), hs_o (by omega), hs_o (by omega), hs_o (by omega), hs_o (by omega), hs_o (by omega), hs_o (by omega), hs_o (by omega), hs_o (by omega), hs_o (by omega)]
theorem NW_sk {g : ph_H} {t : Int32} (ht : iv 0 3 t) (c : ¬ FX12_canGo t g = 0) (na : ¬ asksU t (cg1 t g)) (N : NW g) : NW (FX12_stepKept t g) := by
  obtain ⟨c13, c12, c14⟩ := cg_true c
  have k0 : (0 : Int32).toInt = 0 := by decide
  have km : (-1 : Int32).toInt = -1 := by decide
  rw [Int32.lt_iff_toInt_lt, k0] at c14
  obtain ⟨k1, k2, -, -⟩ := step_KS (g := cg1 t g) ht
  have e : ∀ u, cg1 t g 12 u = g 12 u ∧ cg1 t g 14 u = g 14 u := fun u => ⟨cg1_o t g _ _ (by decide) (by decide) (by omega), cg1_o t g _ _ (by decide) (by decide) (by omega)⟩
  intro u hu
  rw [sk_o na 14 u (by omega), sk_o na 12 u (by omega)]
  by_cases d : u = t.toNatClampNeg
  · subst d
    rw [(e _).1, (e _).2] at k2
    rcases k2 with (k | k) | k
    · rw [k]
      intro w
      omega
    · rw [k, km]
      intro w
      omega
    · rw [k]
      exact fun _ => c12
  · obtain ⟨a, b⟩ := k1 u d
    rw [(e u).1] at a
    rw [(e u).2] at b
    rw [a]
    rcases b with b | b
    · rw [b]
      exact N u hu
    · rw [b, km]
      intro w
      omega
/-- cells behind stepKept: as before, or the record says which was written -/
def CW (g G G' : ph_H) (s : Nat) : Prop := ∀ k, k < 12 → (G' 10 k = G 10 k ∧ G' 11 k = G 11 k) ∨ (g 33 s).toInt = k
theorem CW_sk {g : ph_H} {t : Int32} (ht : iv 0 3 t) (na : ¬ asksU t (cg1 t g)) : CW (FX12_stepKept t g) g (FX12_stepKept t g) (g 0 24 + 1).toNatClampNeg := by
  have k0 : (0 : Int32).toInt = 0 := by decide
  obtain ⟨x24, -⟩ := step_rec na
  rw [cg1_o t g _ _ (by decide) (by decide) (by decide)] at x24
  obtain ⟨-, -, k3, k4⟩ := step_KS (g := cg1 t g) ht
  have r : FX12_stepKept t g 33 (g 0 24 + 1).toNatClampNeg = if FX12_step t (cg1 t g) 0 25 ≤ 0 then FX12_step t (cg1 t g) 0 30 else -2 := by
    rw [sk_r 33 _ (by omega) (by omega)]
    unfold kW
    rw [kI_o _ _ 0 24 (by decide), kI_o _ _ 0 25 (by decide), kI_o _ _ 0 30 (by decide), x24]
    rw [hs_o (by simp), hs_o (by simp), hs_self]
  intro k hk
  rw [r, sk_o na 10 k (by omega), sk_o na 11 k (by omega)]
  have e10 := cg1_o t g 10 k (by decide) (by decide) (by omega)
  have e11 := cg1_o t g 11 k (by decide) (by decide) (by omega)
  by_cases d : FX12_step t (cg1 t g) 0 25 ≤ 0
  · rw [if_pos d, ← e10, ← e11]
    exact k3 k hk
  · left
    rw [Int32.le_iff_toInt_le, k0] at d
    rw [← e10, ← e11]
    exact k4 (by omega) k hk
theorem sk33 {g : ph_H} {t : Int32} (na : ¬ asksU t (cg1 t g)) : ∀ i, ¬ i = (g 0 24 + 1).toNatClampNeg → FX12_stepKept t g 33 i = g 33 i := by
  have fs := frS_FX12_step (h0 := cg1 t g) t (cg1 t g) (EQ_r _)
  obtain ⟨x24, -⟩ := step_rec na
  rw [cg1_o t g _ _ (by decide) (by decide) (by decide)] at x24
  intro i hi
  rw [sk_r 33 _ (by omega) (by omega), kW_o _ _ _ _ (by rw [kI_o _ _ 0 24 (by decide), x24]; omega), kI_o _ _ _ _ (by decide), fs 33 i rfl, cg1_o t g _ _ (by decide) (by decide) (by omega)]
/-! the INPUTS taken: one more at most -/
def S23 (g G : ph_H) : Prop := G 0 23 = g 0 23 ∨ G 0 23 = g 0 23 + 1
theorem S23_if {g a b : ph_H} {c : Prop} [Decidable c] (x : c → S23 g a) (y : ¬ c → S23 g b) : S23 g (if c then a else b) := by
  by_cases d : c
  · rw [if_pos d]
    exact x d
  · rw [if_neg d]
    exact y d
theorem S23_o {g G : ph_H} {k i : Nat} {v : Int32} (S : S23 g G) (n : ¬ (k = 0 ∧ i = 23)) : S23 g (hs G k i v) := by
  unfold S23
  rw [hs_o (fun e => n ⟨e.1.symm, e.2.symm⟩)]
  exact S
theorem nt29_23 : ∀ (q : Nat) (x y : Int32) (g : ph_H), (FX12_newThing_29 q x y g).2 0 23 = g 0 23
  | 0, x, y, g => rfl
  | q + 1, x, y, g => by
    unfold FX12_newThing_29
    split
    · dsimp only
      rw [hs_o (by simp)]
    · rw [nt29_23 q, hs_o (by simp)]
theorem nt_23 (k m : Int32) (g : ph_H) : (FX12_newThing k m g).2 0 23 = g 0 23 := by
  unfold FX12_newThing
  rw [nt29_23, hs_o (by simp), hs_o (by simp), hs_o (by simp)]
theorem plain_23 {t i a b : Int32} (G : ph_H) : S23 G (FX12_workPlain t i a b G) := by
  have r : S23 G G := Or.inl rfl
  have n : ∀ k m, S23 G (FX12_newThing k m G).2 := fun k m => Or.inl (nt_23 k m G)
  have z : ∀ v w : Int32, S23 G (hs (hs (hs G 10 a.toNatClampNeg v) 11 a.toNatClampNeg w) 0 23 ((hs (hs G 10 a.toNatClampNeg v) 11 a.toNatClampNeg w) 0 23 + 1)) := fun v w => by
    right
    rw [hs_self, hs_o (by simp), hs_o (by simp)]
  unfold FX12_workPlain FX12_workPlain_116 FX12_workPlain_153 FX12_workPlain_191 FX12_workPlain_206 FX12_workPlain_219 FX12_workPlain_222 FX12_workPlain_256 FX12_workPlain_259 FX12_set
  repeat' (with_reducible refine S23_if (fun q => ?_) (fun q => ?_))
  all_goals first | exact r | exact z _ _ | exact S23_o (S23_o r (by simp)) (by simp) | exact S23_o (S23_o (S23_o r (by simp)) (by simp)) (by simp) | exact S23_o (S23_o (n _ _) (by simp)) (by simp)
theorem base_23 {t i a b c x6 s0 : Int32} (g : ph_H) : S23 g (FX12_instruct_177 t i a b c x6 s0 g) := by
  unfold FX12_instruct_177 FX12_instruct_195 FX12_instruct_204 FX12_instruct_251
  have w := frW_FX12_work (h0 := g) t (g 2 i.toNatClampNeg) a b c g (EQ_r g) 0 23 rfl
  have p := plain_23 (t := t) (i := i) (a := a) (b := b) (FX12_work t (g 2 i.toNatClampNeg) a b c g)
  generalize FX12_workPlain t i a b (FX12_work t (g 2 i.toNatClampNeg) a b c g) = G at *
  unfold S23 at p
  rw [w] at p
  have q : ∀ v, S23 g (FX12_goTo t v G) := fun v => by
    unfold S23
    rw [goTo_o _ _ _ _ _ (by simp)]
    exact p
  repeat' split
  all_goals first | exact p | exact q _
theorem ins_23 {t i : Int32} (g : ph_H) : S23 g (FX12_instruct t i g) := by
  have A : ∀ (a b c s0 : Int32) (G : ph_H), G 0 23 = g 0 23 → S23 g (FX12_instruct_102 t i a b c s0 G) := fun a b c s0 G e => by
    have B : ∀ x6 y, S23 g (FX12_instruct_177 t i a b c x6 y (hs G 0 25 s0)) := fun x6 y => by
      have := base_23 (t := t) (i := i) (a := a) (b := b) (c := c) (x6 := x6) (s0 := y) (hs G 0 25 s0)
      unfold S23 at this ⊢
      rw [hs_o (by simp), e] at this
      exact this
    unfold FX12_instruct_102 FX12_instruct_144 FX12_instruct_148 FX12_instruct_149
    split
    · repeat' split
      all_goals exact B _ _
    · exact S23_o (Or.inl e) (by simp)
  unfold FX12_instruct FX12_instruct_98
  repeat' split
  all_goals exact A _ _ _ _ _ (hs_o (by simp))
theorem step_23 {t : Int32} (g : ph_H) : S23 g (FX12_step t g) := by
  have A : ∀ (i : Int32) (G : ph_H), G 0 23 = g 0 23 → S23 g (FX12_step_148 t i G) := fun i G e => by
    unfold FX12_step_148 FX12_step_154
    refine S23_o (S23_o ?_ (by simp)) (by simp)
    have := ins_23 (t := t) (i := i) G
    unfold S23 at this ⊢
    rw [e] at this
    exact this
  unfold FX12_step
  split
  · split
    · split
      · exact A _ _ (by simp [hs_get])
      · split
        · left
          simp [hs_get]
        · exact A _ _ (by simp [hs_get])
    · exact A _ _ (by simp [hs_get])
  · unfold FX12_step_110 FX12_step_154
    left
    rw [hs_o (by simp), hs_o (by simp), goTo_o _ _ _ _ _ (by simp)]
    simp [hs_get]
/-- what was taken in a run is the told INPUTS' beginning -/
def IK (g : ph_H) : Prop := ∀ k : Nat, (k : Int) < (g 0 23).toInt → g 36 k = g 7 k
/-- the changes come in the steps' order -/
def CI (g : ph_H) (n : Int32) : Prop := (∀ i : Nat, (i : Int) < (g 0 60).toInt → 0 ≤ (g 37 i).toInt ∧ (g 37 i).toInt < n.toInt ∧ iv 0 3 (g 38 i)) ∧ (∀ i j : Nat, i < j → (j : Int) < (g 0 60).toInt → (g 37 i).toInt < (g 37 j).toInt)
theorem IK_sk {g : ph_H} {t : Int32} (na : ¬ asksU t (cg1 t g)) (f23 : iv 0 30 (g 0 23)) (K : IK g) : IK (FX12_stepKept t g) := by
  have k1 : (1 : Int32).toInt = 1 := by decide
  have fs := frS_FX12_step (h0 := cg1 t g) t (cg1 t g) (EQ_r _)
  have s := step_23 (t := t) (cg1 t g)
  have n23 := iv_nat f23 rfl
  have ft := frT_FX12_stepKept (h0 := g) t g (EQ_r _)
  unfold S23 at s
  rw [cg1_o t g _ _ (by decide) (by decide) (by decide)] at s
  unfold iv at f23
  have e1 : (g 0 23 + 1).toInt = (g 0 23).toInt + 1 := by rw [ti_add (by omega) (by omega), k1]
  have e23 : FX12_stepKept t g 0 23 = FX12_step t (cg1 t g) 0 23 := sk_o na 0 23 (by omega)
  have w36 : ∀ k, FX12_stepKept t g 36 k = kI (g 0 23) (FX12_step t (cg1 t g)) 36 k := fun k => by
    rw [sk_eq]
    have e := frK_FX12_keep (h0 := kW t (kI (g 0 23) (FX12_step t (cg1 t g)))) (FX12_step t (cg1 t g) 0 24) _ (EQ_r _)
    rw [e 36 k rfl, kW_o _ _ _ _ (by omega)]
  intro k hk
  rw [e23] at hk
  rw [w36, ft 7 k rfl]
  have o36 : ∀ k, FX12_step t (cg1 t g) 36 k = g 36 k := fun k => by rw [fs 36 k rfl, cg1_o t g _ _ (by decide) (by decide) (by omega)]
  have o7 : ∀ k, FX12_step t (cg1 t g) 7 k = g 7 k := fun k => by rw [fs 7 k rfl, cg1_o t g _ _ (by decide) (by decide) (by omega)]
  unfold kI
  rcases s with s | s
  · rw [s] at hk ⊢
    rw [if_pos (by rw [Int32.le_iff_toInt_le]; exact Int.le_refl _), o36]
    exact K k hk
  · rw [s] at hk ⊢
    rw [if_neg (by rw [Int32.le_iff_toInt_le]; omega)]
    by_cases c : k = (g 0 23).toNatClampNeg
    · rw [← c, hs_self, o7]
    · rw [hs_o (fun w => c w.2), o36]
      exact K k (by omega)
theorem CI_sk {z : zT} {g : ph_H} {t : Int32} (ht : iv 0 3 t) (na : ¬ asksU t (cg1 t g)) (ns : iv 0 299 (g 0 24)) (I : IM z g) (hch : (g 0 60).toInt ≤ (g 0 24).toInt) (K : CI g (g 0 24)) : CI (FX12_stepKept t g) (FX12_stepKept t g 0 24) := by
  have k1 : (1 : Int32).toInt = 1 := by decide
  have fs := frS_FX12_step (h0 := cg1 t g) t (cg1 t g) (EQ_r _)
  obtain ⟨x24, -⟩ := step_rec na
  rw [cg1_o t g _ _ (by decide) (by decide) (by decide)] at x24
  have f60 : iv 0 300 (g 0 60) := IMv I 0 60
  have n60 := iv_nat f60 rfl
  unfold iv at ns f60
  have e24 : FX12_stepKept t g 0 24 = g 0 24 + 1 := by rw [sk_o na 0 24 (by omega), x24]
  have es : (g 0 24 + 1).toInt = (g 0 24).toInt + 1 := by rw [ti_add (by omega) (by omega), k1]
  have e37 : ∀ i, FX12_stepKept t g 37 i = cg1 t g 37 i := fun i => by rw [sk_o na 37 i (by omega), fs 37 i rfl]
  have e38 : ∀ i, FX12_stepKept t g 38 i = cg1 t g 38 i := fun i => by rw [sk_o na 38 i (by omega), fs 38 i rfl]
  have e60 : FX12_stepKept t g 0 60 = cg1 t g 0 60 := by rw [sk_o na 0 60 (by omega), fs 0 60 rfl]
  obtain ⟨K1, K2⟩ := K
  unfold CI
  simp only [e37, e38, e60, e24]
  unfold cg1
  by_cases c : t = g 0 26
  · simp only [if_pos c]
    exact ⟨fun i hi => ⟨(K1 i hi).1, by have := (K1 i hi).2.1; omega, (K1 i hi).2.2⟩, K2⟩
  · simp only [if_neg c]
    have q60 : (g 0 60 + 1).toInt = (g 0 60).toInt + 1 := by rw [ti_add (by omega) (by omega), k1]
    have v37 : ∀ i, hs (hs (hs g 37 (g 0 60).toNatClampNeg (g 0 24)) 38 (g 0 60).toNatClampNeg t) 0 60 (g 0 60 + 1) 37 i = if i = (g 0 60).toNatClampNeg then g 0 24 else g 37 i := fun i => by
      rw [hs_o (by simp), hs_o (by simp)]
      by_cases d : i = (g 0 60).toNatClampNeg
      · rw [if_pos d, d, hs_self]
      · rw [if_neg d, hs_o (fun w => d w.2)]
    have v38 : ∀ i, hs (hs (hs g 37 (g 0 60).toNatClampNeg (g 0 24)) 38 (g 0 60).toNatClampNeg t) 0 60 (g 0 60 + 1) 38 i = if i = (g 0 60).toNatClampNeg then t else g 38 i := fun i => by
      rw [hs_o (by simp)]
      by_cases d : i = (g 0 60).toNatClampNeg
      · rw [if_pos d, d, hs_self]
      · rw [if_neg d, hs_o (fun w => d w.2), hs_o (by simp)]
    simp only [v37, v38, hs_self, q60]
    refine ⟨fun i hi => ?_, fun i j hij hj => ?_⟩
    · by_cases d : i = (g 0 60).toNatClampNeg
      · simp only [if_pos d]
        exact ⟨by omega, by omega, ht⟩
      · simp only [if_neg d]
        obtain ⟨a, b, c⟩ := K1 i (by omega)
        exact ⟨a, by omega, c⟩
    · by_cases d : j = (g 0 60).toNatClampNeg
      · have : ¬ i = (g 0 60).toNatClampNeg := by omega
        simp only [if_pos d, if_neg this]
        exact (K1 i (by omega)).2.1
      · have : ¬ i = (g 0 60).toNatClampNeg := by omega
        simp only [if_neg d, if_neg this]
        exact K2 i j hij (by omega)
