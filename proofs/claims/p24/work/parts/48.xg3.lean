section MG_48_x30H0
/-! MARKS: what a step did to the LOCKS, and which places it touched -/
def FK (f : Nat) (g G : ph_H) : Prop := G 0 f = g 0 f
theorem FK_if {f : Nat} {g a b : ph_H} {c : Prop} [Decidable c] (x : c → FK f g a) (y : ¬ c → FK f g b) : FK f g (if c then a else b) := by
  by_cases d : c
  · rw [if_pos d]
    exact x d
  · rw [if_neg d]
    exact y d
theorem FK_r (f : Nat) (g : ph_H) : FK f g g := rfl
theorem FK_o {f : Nat} {g G : ph_H} {k i : Nat} {v : Int32} (S : FK f g G) (n : ¬ (k = 0 ∧ i = f)) : FK f g (hs G k i v) := by
  unfold FK
  rw [hs_o (fun e => n ⟨e.1.symm, e.2.symm⟩)]
  exact S
theorem FK_set {f : Nat} {g G : ph_H} {a v w : Int32} (S : FK f g G) : FK f g (FX12_set a v w G) := by
  unfold FX12_set
  exact FK_o (FK_o S (by simp)) (by simp)
theorem nt29_f {f : Nat} (n : ¬ f = 18) : ∀ (q : Nat) (x y : Int32) (g : ph_H), (FX12_newThing_29 q x y g).2 0 f = g 0 f
  | 0, x, y, g => rfl
  | q + 1, x, y, g => by
    unfold FX12_newThing_29
    split
    · dsimp only
      rw [hs_o (fun e => n e.2)]
    · rw [nt29_f n q, hs_o (by simp)]
theorem FK_nt {f : Nat} {g G : ph_H} {k m : Int32} (n : ¬ f = 18) (S : FK f g G) : FK f g (FX12_newThing k m G).2 := by
  unfold FK FX12_newThing
  rw [nt29_f n, hs_o (by simp), hs_o (by simp), hs_o (by simp)]
  exact S
theorem w391_f {f : Nat} : ∀ (q : Nat) (a x : Int32) (g : ph_H), FX12_work_391 q a x g 0 f = g 0 f
  | 0, a, x, g => rfl
  | q + 1, a, x, g => by
    unfold FX12_work_391 FX12_work_435
    split
    · rfl
    · split
      · rw [w391_f q, hs_o (by simp), hs_o (by simp)]
      · exact w391_f q a (x + 1) g
/-- what work keeps of the fields 29 .. 32 -/
theorem work_f {f : Nat} {t o a b c : Int32} {g : ph_H} (n18 : ¬ f = 18) (c1 : f = 29 → ¬ o = 9) (c2 : f = 30 → ¬ o = 10) (c3 : f = 31 ∨ f = 32 → ¬ o = 12 ∧ ¬ o = 13 ∧ ¬ o = 14 ∧ ¬ o = 15) : FK f g (FX12_work t o a b c g) := by
  unfold FX12_work FX12_work_88 FX12_work_111 FX12_work_134 FX12_work_152 FX12_work_155 FX12_work_212
  refine FK_if (fun _ => FK_set (FK_r f g)) (fun _ => FK_if (fun _ => FK_set (FK_r f g)) (fun _ => FK_if (fun _ => FK_set (FK_r f g)) (fun _ => FK_if (fun _ => FK_r f g) (fun _ => FK_if (fun _ => FK_r f g) (fun _ => FK_if (fun _ => FK_set (FK_nt n18 (FK_r f g))) (fun _ => FK_if (fun q9 => FK_set (FK_o (FK_r f g) (fun e => c1 e.2.symm q9))) (fun _ => FK_if (fun q10 => FK_o (FK_o (FK_r f g) (fun e => c2 e.2.symm q10)) (by simp)) (fun _ => FK_if (fun _ => FK_r f g) (fun _ => FK_if (fun q => FK_o (FK_o (FK_o (FK_r f g) (by simp)) (fun e => (c3 (Or.inl e.2.symm)).1 q)) (fun e => (c3 (Or.inr e.2.symm)).1 q)) (fun _ => FK_if (fun q => FK_o (FK_o (FK_o (FK_r f g) (by simp)) (fun e => (c3 (Or.inl e.2.symm)).2.1 q)) (fun e => (c3 (Or.inr e.2.symm)).2.1 q)) (fun _ => FK_if (fun q => FK_o (FK_o (FK_o (FK_o (FK_r f g) (by simp)) (by simp)) (fun e => (c3 (Or.inl e.2.symm)).2.2.1 q)) (fun e => (c3 (Or.inr e.2.symm)).2.2.1 q)) (fun _ => FK_if (fun q => ?_) (fun _ => FK_r f g)))))))))))))
  unfold FK
  rw [w391_f, hs_o (fun e => (c3 (Or.inr e.2)).2.2.2 q), hs_o (fun e => (c3 (Or.inl e.2)).2.2.2 q)]
theorem plain_f {f : Nat} {t i a b : Int32} {g : ph_H} (n18 : ¬ f = 18) (n23 : ¬ f = 23) (c1 : f = 29 → ¬ g 2 i.toNatClampNeg = 1) (c2 : f = 30 → ¬ g 2 i.toNatClampNeg = 2) (c3 : f = 31 ∨ f = 32 → ¬ g 2 i.toNatClampNeg = 17) : FK f g (FX12_workPlain t i a b g) := by
  have r := FK_r f g
  unfold FX12_workPlain FX12_workPlain_116 FX12_workPlain_153 FX12_workPlain_191 FX12_workPlain_206 FX12_workPlain_219 FX12_workPlain_222 FX12_workPlain_256 FX12_workPlain_259
  refine FK_if (fun _ => FK_set r) (fun _ => FK_if (fun q => FK_set (FK_o r (fun e => c1 e.2.symm q))) (fun _ => FK_if (fun q => FK_set (FK_o r (fun e => c2 e.2.symm q))) (fun _ => ?_)))
  repeat' (with_reducible refine FK_if (fun q => ?_) (fun q => ?_))
  all_goals first | exact r | exact FK_set (FK_nt n18 r) | exact FK_o (FK_set r) (fun e => n23 e.2.symm) | exact FK_o (FK_o (FK_o r (by simp)) (fun e => c3 (Or.inl e.2.symm) q)) (fun e => c3 (Or.inr e.2.symm) q)
/-- LOCKS that were there -/
def OKp (g G : ph_H) : Prop := ∀ p : Nat, (p : Int) < (g 0 18).toInt → G 17 p = g 17 p
theorem OKp_if {g a b : ph_H} {c : Prop} [Decidable c] (x : c → OKp g a) (y : ¬ c → OKp g b) : OKp g (if c then a else b) := by
  by_cases d : c
  · rw [if_pos d]
    exact x d
  · rw [if_neg d]
    exact y d
theorem OKp_r (g : ph_H) : OKp g g := fun _ _ => rfl
theorem OKp_o {g G : ph_H} {k i : Nat} {v : Int32} (S : OKp g G) (n : ¬ k = 17) : OKp g (hs G k i v) := fun p hp => by
  rw [hs_o (fun e => n e.1.symm)]
  exact S p hp
theorem OKp_set {g G : ph_H} {a v w : Int32} (S : OKp g G) : OKp g (FX12_set a v w G) := by
  unfold FX12_set
  exact OKp_o (OKp_o S (by simp)) (by simp)
theorem nt29_17 : ∀ (q : Nat) (x y : Int32) (g : ph_H) (p : Nat), (FX12_newThing_29 q x y g).2 17 p = g 17 p
  | 0, x, y, g, p => rfl
  | q + 1, x, y, g, p => by
    unfold FX12_newThing_29
    split
    · dsimp only
      rw [hs_o (by simp)]
    · rw [nt29_17 q, hs_o (by simp)]
theorem OKp_nt {g : ph_H} {k m : Int32} : OKp g (FX12_newThing k m g).2 := fun p hp => by
  unfold FX12_newThing
  have : ¬ p = (g 0 18).toNatClampNeg := fun e => by
    have : ((g 0 18).toNatClampNeg : Int) = (g 0 18).toInt := by
      rw [← Int32.toNat_toInt]
      omega
    omega
  rw [nt29_17, hs_o (by simp), hs_o (fun e => this e.2), hs_o (by simp)]
theorem work_17 {t o a b c : Int32} {g : ph_H} (n12 : ¬ o = 12) (n13 : ¬ o = 13) (n14 : ¬ o = 14) : OKp g (FX12_work t o a b c g) := by
  have e : OKp g (FX12_work_391 2000 a 0 (hs (hs g 0 31 3) 0 32 (g 11 a.toNatClampNeg))) := fun p hp => by
    rw [w391_o 2000 a 0 _ 17 p (by decide) (by decide), hs_o (by simp), hs_o (by simp)]
  have r := OKp_r g
  unfold FX12_work FX12_work_88 FX12_work_111 FX12_work_134 FX12_work_152 FX12_work_155 FX12_work_212
  repeat' (with_reducible refine OKp_if (fun q => ?_) (fun q => ?_))
  all_goals first | exact r | exact e | contradiction | exact OKp_set r | exact OKp_set OKp_nt | exact OKp_set (OKp_o r (by decide)) | exact OKp_o (OKp_o r (by decide)) (by decide)
theorem plain_17 {t i a b : Int32} {g G : ph_H} (S : OKp g G) (e18 : G 0 18 = g 0 18 ∨ ¬ G 2 i.toNatClampNeg = 11) : OKp g (FX12_workPlain t i a b G) := by
  have nt : G 0 18 = g 0 18 → ∀ k m, OKp g (FX12_newThing k m G).2 := fun e k m p hp => by
    rw [OKp_nt p (by rw [e]; exact hp)]
    exact S p hp
  unfold FX12_workPlain FX12_workPlain_116 FX12_workPlain_153 FX12_workPlain_191 FX12_workPlain_206 FX12_workPlain_219 FX12_workPlain_222 FX12_workPlain_256 FX12_workPlain_259
  repeat' (with_reducible refine OKp_if (fun q => ?_) (fun q => ?_))
  all_goals first | exact S | exact OKp_set S | exact OKp_set (OKp_o S (by decide)) | exact OKp_o (OKp_set S) (by decide) | exact OKp_o (OKp_o (OKp_o S (by decide)) (by decide)) (by decide) | exact OKp_set (nt (e18.elim id (fun n => absurd (by assumption) n)) _ _)
end MG_48_x30H0
section MG_48_x31H1
/-! MARKS of a step -/
theorem plain_id {t i a b : Int32} {G : ph_H} (e : G 2 i.toNatClampNeg = 12 ∨ G 2 i.toNatClampNeg = 13 ∨ G 2 i.toNatClampNeg = 14 ∨ G 2 i.toNatClampNeg = 15) : FX12_workPlain t i a b G = G := by
  unfold FX12_workPlain
  rcases e with e | e | e | e <;> simp (decide := true) only [e, ↓reduceIte]
/-- the mark of an INSTRUCTION and what it did to the LOCKS -/
def MB (t k o u : Int32) (K R : ph_H) : Prop := (k = 12 ∧ R 0 31 = 1 ∧ R 0 32 = o ∧ ∀ p, R 17 p = if p = o.toNatClampNeg then t else K 17 p) ∨ ((k = 13 ∨ k = 14) ∧ R 0 31 = 2 ∧ R 0 32 = o ∧ ∀ p, R 17 p = if p = o.toNatClampNeg then -1 else K 17 p) ∨ (k = 15 ∧ R 0 31 = 3 ∧ R 0 32 = o ∧ ∀ p, R 17 p = K 17 p) ∨ (R 0 31 = 4 ∧ R 0 32 = u ∧ OKp K R) ∨ (R 0 31 = 0 ∧ OKp K R)
def XO (R : ph_H) : Prop := R 0 29 = -2 ∨ R 0 30 = -2
def K18 (g G : ph_H) : Prop := G 0 18 = g 0 18 ∨ G 0 18 = g 0 18 + 1
theorem nt29_18 : ∀ (q : Nat) (x y : Int32) (g : ph_H), (FX12_newThing_29 q x y g).2 0 18 = g 0 18 ∨ (FX12_newThing_29 q x y g).2 0 18 = g 0 18 + 1
  | 0, x, y, g => Or.inl rfl
  | q + 1, x, y, g => by
    unfold FX12_newThing_29
    split
    · right
      dsimp only
      rw [hs_self]
    · have := nt29_18 q x (y + 1) (hs g 19 (16 * x + y).toNatClampNeg 0)
      rw [hs_o (by simp)] at this
      exact this
theorem nt_18 (k m : Int32) (g : ph_H) : K18 g (FX12_newThing k m g).2 := by
  unfold K18 FX12_newThing
  have := nt29_18 2000 (g 0 18) 0 (hs (hs (hs g 16 (g 0 18).toNatClampNeg k) 17 (g 0 18).toNatClampNeg (-1)) 18 (g 0 18).toNatClampNeg m)
  rw [hs_o (by simp), hs_o (by simp), hs_o (by simp)] at this
  exact this
theorem K18_if {g a b : ph_H} {c : Prop} [Decidable c] (x : c → K18 g a) (y : ¬ c → K18 g b) : K18 g (if c then a else b) := by
  by_cases d : c
  · rw [if_pos d]
    exact x d
  · rw [if_neg d]
    exact y d
theorem K18_o {g G : ph_H} {k i : Nat} {v : Int32} (S : K18 g G) (n : ¬ (k = 0 ∧ i = 18)) : K18 g (hs G k i v) := by
  unfold K18
  rw [hs_o (fun e => n ⟨e.1.symm, e.2.symm⟩)]
  exact S
theorem K18_set {g G : ph_H} {a v w : Int32} (S : K18 g G) : K18 g (FX12_set a v w G) := by
  unfold FX12_set
  exact K18_o (K18_o S (by simp)) (by simp)
theorem work_18 {t o a b c : Int32} {g : ph_H} : K18 g (FX12_work t o a b c g) ∧ (¬ o = 8 → FX12_work t o a b c g 0 18 = g 0 18) := by
  have r : K18 g g := Or.inl rfl
  have e : K18 g (FX12_work_391 2000 a 0 (hs (hs g 0 31 3) 0 32 (g 11 a.toNatClampNeg))) := by
    unfold K18
    rw [w391_f, hs_o (by simp), hs_o (by simp)]
    exact Or.inl rfl
  have e' : FK 18 g (FX12_work_391 2000 a 0 (hs (hs g 0 31 3) 0 32 (g 11 a.toNatClampNeg))) := by
    unfold FK
    rw [w391_f, hs_o (by simp), hs_o (by simp)]
  have rf := FK_r 18 g
  refine ⟨?_, fun n => ?_⟩
  · unfold FX12_work FX12_work_88 FX12_work_111 FX12_work_134 FX12_work_152 FX12_work_155 FX12_work_212
    repeat' (with_reducible refine K18_if (fun q => ?_) (fun q => ?_))
    all_goals first | exact r | exact e | exact K18_set r | exact K18_set (nt_18 _ _ g) | exact K18_set (K18_o r (by decide)) | exact K18_o (K18_o r (by decide)) (by decide) | exact K18_o (K18_o (K18_o r (by decide)) (by decide)) (by decide) | exact K18_o (K18_o (K18_o (K18_o r (by decide)) (by decide)) (by decide)) (by decide)
  · show FK 18 g _
    unfold FX12_work FX12_work_88 FX12_work_111 FX12_work_134 FX12_work_152 FX12_work_155 FX12_work_212
    repeat' (with_reducible refine FK_if (fun q => ?_) (fun q => ?_))
    all_goals first | exact rf | exact e' | contradiction | exact FK_set rf | exact FK_set (FK_o rf (by decide)) | exact FK_o (FK_o rf (by decide)) (by decide) | exact FK_o (FK_o (FK_o rf (by decide)) (by decide)) (by decide) | exact FK_o (FK_o (FK_o (FK_o rf (by decide)) (by decide)) (by decide)) (by decide)
theorem plain_18 {t i a b : Int32} {g : ph_H} : K18 g (FX12_workPlain t i a b g) ∧ (¬ g 2 i.toNatClampNeg = 11 → FX12_workPlain t i a b g 0 18 = g 0 18) := by
  have r : K18 g g := Or.inl rfl
  have rf := FK_r 18 g
  refine ⟨?_, fun n => ?_⟩
  · unfold FX12_workPlain FX12_workPlain_116 FX12_workPlain_153 FX12_workPlain_191 FX12_workPlain_206 FX12_workPlain_219 FX12_workPlain_222 FX12_workPlain_256 FX12_workPlain_259
    repeat' (with_reducible refine K18_if (fun q => ?_) (fun q => ?_))
    all_goals first | exact r | exact K18_set r | exact K18_set (nt_18 _ _ g) | exact K18_set (K18_o r (by decide)) | exact K18_o (K18_set r) (by decide) | exact K18_o (K18_o (K18_o r (by decide)) (by decide)) (by decide)
  · show FK 18 g _
    unfold FX12_workPlain FX12_workPlain_116 FX12_workPlain_153 FX12_workPlain_191 FX12_workPlain_206 FX12_workPlain_219 FX12_workPlain_222 FX12_workPlain_256 FX12_workPlain_259
    repeat' (with_reducible refine FK_if (fun q => ?_) (fun q => ?_))
    all_goals first | exact rf | contradiction | exact FK_set rf | exact FK_set (FK_o rf (by decide)) | exact FK_o (FK_set rf) (by decide) | exact FK_o (FK_o (FK_o rf (by decide)) (by decide)) (by decide)
theorem base_M {t i a b c x6 y : Int32} {K : ph_H} (z31 : K 0 31 = 0) (z29 : K 0 29 = -2) (z30 : K 0 30 = -2) : MB t (K 2 i.toNatClampNeg) (K 11 a.toNatClampNeg) (FX12_modulo (K 3 i.toNatClampNeg) 4) K (FX12_instruct_177 t i a b c x6 y K) ∧ XO (FX12_instruct_177 t i a b c x6 y K) ∧ K18 K (FX12_instruct_177 t i a b c x6 y K) := by
  generalize ek : K 2 i.toNatClampNeg = k
  unfold FX12_instruct_177 FX12_instruct_195
  rw [ek]
  have REST : ∀ (G : ph_H) (p j : Nat), ¬ p = 12 → FX12_instruct_204 t i x6 y G p j = G p j := fun G p j n => by
    unfold FX12_instruct_204 FX12_instruct_251
    split
    · rfl
    · split
      · exact goTo_o _ _ _ _ _ (fun w => n w.1)
      · split <;> exact goTo_o _ _ _ _ _ (fun w => n w.1)
  have MBc : ∀ G o u, MB t k o u K G → MB t k o u K (FX12_instruct_204 t i x6 y G) := fun G o u M => by
    unfold MB OKp at *
    simp only [REST G 0 31 (by decide), REST G 0 32 (by decide), REST G 17 _ (by decide)]
    exact M
  have wp : ∀ G, FX12_instruct_204 t i x6 y G 0 29 = G 0 29 ∧ FX12_instruct_204 t i x6 y G 0 30 = G 0 30 ∧ FX12_instruct_204 t i x6 y G 0 18 = G 0 18 := fun G => ⟨REST G 0 29 (by decide), REST G 0 30 (by decide), REST G 0 18 (by decide)⟩
  generalize e1 : FX12_work t k a b c K = G1
  have fw : G1 2 i.toNatClampNeg = k := by
    rw [← e1, ← ek]
    exact frW_FX12_work (h0 := K) t _ a b c K (EQ_r K) 2 _ rfl
  have fw3 : G1 3 i.toNatClampNeg = K 3 i.toNatClampNeg := by
    rw [← e1]
    exact frW_FX12_work (h0 := K) t _ a b c K (EQ_r K) 3 _ rfl
  refine ⟨MBc _ _ _ ?_, ?_, ?_⟩
  · by_cases k12 : k = 12
    · rw [plain_id (by rw [fw]; exact Or.inl k12), ← e1, k12]
      left
      unfold FX12_work
      simp (decide := true) only [↓reduceIte]
      refine ⟨trivial, by rw [hs_o (by simp), hs_self], by rw [hs_self], fun p => ?_⟩
      rw [hs_o (by simp), hs_o (by simp)]
      by_cases d : p = (K 11 a.toNatClampNeg).toNatClampNeg
      · rw [if_pos d, d, hs_self]
      · rw [if_neg d, hs_o (fun w => d w.2)]
    · by_cases k13 : k = 13
      · rw [plain_id (by rw [fw]; exact Or.inr (Or.inl k13)), ← e1, k13]
        right
        left
        unfold FX12_work
        simp (decide := true) only [↓reduceIte]
        refine ⟨by simp, by rw [hs_o (by simp), hs_self], by rw [hs_self], fun p => ?_⟩
        rw [hs_o (by simp), hs_o (by simp)]
        by_cases d : p = (K 11 a.toNatClampNeg).toNatClampNeg
        · rw [if_pos d, d, hs_self]
        · rw [if_neg d, hs_o (fun w => d w.2)]
      · by_cases k14 : k = 14
        · rw [plain_id (by rw [fw]; exact Or.inr (Or.inr (Or.inl k14))), ← e1, k14]
          right
          left
          unfold FX12_work
          simp (decide := true) only [↓reduceIte]
          refine ⟨by simp, by rw [hs_o (by simp), hs_self], by rw [hs_self], fun p => ?_⟩
          rw [hs_o (by simp), hs_o (by simp), hs_o (by simp)]
          by_cases d : p = (K 11 a.toNatClampNeg).toNatClampNeg
          · rw [if_pos d, d, hs_self]
          · rw [if_neg d, hs_o (fun w => d w.2)]
        · by_cases k15 : k = 15
          · rw [plain_id (by rw [fw]; exact Or.inr (Or.inr (Or.inr k15))), ← e1, k15]
            right
            right
            left
            unfold FX12_work
            simp (decide := true) only [↓reduceIte]
            refine ⟨trivial, by rw [w391_f, hs_o (by simp), hs_self], by rw [w391_f, hs_self], fun p => ?_⟩
            rw [w391_o 2000 a 0 _ 17 p (by decide) (by decide), hs_o (by simp), hs_o (by simp)]
          · right
            right
            right
            have W17 : OKp K G1 := by rw [← e1]; exact work_17 k12 k13 k14
            have W31 : G1 0 31 = K 0 31 := by rw [← e1]; exact work_f (f := 31) (by decide) (fun w => absurd w (by decide)) (fun w => absurd w (by decide)) (fun _ => ⟨k12, k13, k14, k15⟩)
            have W18 : G1 0 18 = K 0 18 ∨ ¬ G1 2 i.toNatClampNeg = 11 := by
              by_cases k8 : k = 8
              · right
                rw [fw, k8]
                decide
              · left
                rw [← e1]
                exact work_18.2 k8
            by_cases k17 : k = 17
            · left
              have e17 : FX12_workPlain t i a b G1 = hs (hs (hs G1 13 (FX12_modulo (G1 3 i.toNatClampNeg) 4).toNatClampNeg (vp_nar .boolean 1)) 0 31 4) 0 32 (FX12_modulo (G1 3 i.toNatClampNeg) 4) := by
                unfold FX12_workPlain
                simp (decide := true) only [fw, k17, ↓reduceIte]
              refine ⟨?_, ?_, plain_17 W17 W18⟩
              · rw [e17, hs_o (by simp), hs_self]
              · rw [e17, hs_self, fw3]
            · right
              refine ⟨?_, plain_17 W17 W18⟩
              have := plain_f (f := 31) (t := t) (i := i) (a := a) (b := b) (g := G1) (by decide) (by decide) (fun w => absurd w (by decide)) (fun w => absurd w (by decide)) (fun _ => by rw [fw]; exact k17)
              exact this.trans (W31.trans z31)
  · unfold XO
    rw [(wp _).1, (wp _).2.1]
    by_cases k9 : k = 9 ∨ k = 1
    · right
      have a1 : FK 30 K G1 := by rw [← e1]; exact work_f (by decide) (fun w => absurd w (by decide)) (fun _ => by rcases k9 with e | e <;> (rw [e]; decide)) (fun w => absurd w (by decide))
      have a2 := plain_f (f := 30) (t := t) (i := i) (a := a) (b := b) (g := G1) (by decide) (by decide) (fun w => absurd w (by decide)) (fun _ => by rw [fw]; rcases k9 with e | e <;> (rw [e]; decide)) (fun w => absurd w (by decide))
      exact a2.trans (a1.trans z30)
    · left
      have a1 : FK 29 K G1 := by rw [← e1]; exact work_f (by decide) (fun _ e => k9 (Or.inl e)) (fun w => absurd w (by decide)) (fun w => absurd w (by decide))
      have a2 := plain_f (f := 29) (t := t) (i := i) (a := a) (b := b) (g := G1) (by decide) (by decide) (fun _ => by rw [fw]; exact fun e => k9 (Or.inr e)) (fun w => absurd w (by decide)) (fun w => absurd w (by decide))
      exact a2.trans (a1.trans z29)
  · unfold K18
    rw [(wp _).2.2]
    by_cases k8 : k = 8
    · have a2 := (plain_18 (t := t) (i := i) (a := a) (b := b) (g := G1)).2 (by rw [fw, k8]; decide)
      rw [a2, ← e1]
      exact work_18.1
    · have a1 : G1 0 18 = K 0 18 := by rw [← e1]; exact work_18.2 k8
      have a2 := (plain_18 (t := t) (i := i) (a := a) (b := b) (g := G1)).1
      unfold K18 at a2
      rw [a1] at a2
      exact a2
end MG_48_x31H1
section MG_48_x32H2
/-! MARKS of a step, in the reference's run -/
theorem why12 {t a b c n : Int32} {g : ph_H} (l : FX12_why t 12 a b c n g ≤ 0) : ¬ FX12_isLock a g = 0 ∧ ¬ g 17 (g 11 a.toNatClampNeg).toNatClampNeg = t := by
  unfold FX12_why at l
  simp (decide := true) only [↓reduceIte] at l
  by_cases d : FX12_isLock a g = 0
  · rw [if_pos d] at l
    exact absurd l (by decide)
  · rw [if_neg d] at l
    by_cases e : g 17 (g 11 a.toNatClampNeg).toNatClampNeg = t
    · rw [if_pos e] at l
      exact absurd l (by decide)
    · exact ⟨d, e⟩
theorem why13 {t a b c n : Int32} {g : ph_H} (l : FX12_why t 13 a b c n g ≤ 0) : ¬ FX12_isLock a g = 0 ∧ g 17 (g 11 a.toNatClampNeg).toNatClampNeg = t := by
  unfold FX12_why at l
  simp (decide := true) only [↓reduceIte] at l
  by_cases d : FX12_isLock a g = 0
  · rw [if_pos d] at l
    exact absurd l (by decide)
  · rw [if_neg d] at l
    by_cases e : g 17 (g 11 a.toNatClampNeg).toNatClampNeg = t
    · exact ⟨d, e⟩
    · rw [if_neg e] at l
      exact absurd l (by decide)
theorem why145 {t o a b c n : Int32} {g : ph_H} (h : o = 14 ∨ o = 15) (l : FX12_why t o a b c n g ≤ 0) : g 10 a.toNatClampNeg = 3 ∧ g 17 (g 11 a.toNatClampNeg).toNatClampNeg = t := by
  have K : (if g 10 a.toNatClampNeg = 3 then (if g 17 (g 11 a.toNatClampNeg).toNatClampNeg = t then (0 : Int32) else 6) else 1) ≤ 0 := by
    rcases h with rfl | rfl
    · unfold FX12_why at l
      simp (decide := true) only [↓reduceIte] at l
      exact l
    · unfold FX12_why at l
      simp (decide := true) only [↓reduceIte] at l
      exact l
  by_cases d : g 10 a.toNatClampNeg = 3
  · rw [if_pos d] at K
    by_cases e : g 17 (g 11 a.toNatClampNeg).toNatClampNeg = t
    · exact ⟨d, e⟩
    · rw [if_neg e] at K
      exact absurd K (by decide)
  · rw [if_neg d] at K
    exact absurd K (by decide)
theorem isLock_10 {a : Int32} {g : ph_H} (n : ¬ FX12_isLock a g = 0) : ¬ g 10 a.toNatClampNeg = 0 := fun e => by
  unfold FX12_isLock FX12_isLock_20 at n
  rw [e] at n
  simp (decide := true) only [↓reduceIte] at n
def IXo (g G : ph_H) : Prop := 0 ≤ (G 0 32).toInt ∧ (G 0 32).toInt < (g 0 18).toInt
def MKS (t : Int32) (g G : ph_H) : Prop := (G 0 31 = 1 ∧ IXo g G ∧ g 17 (G 0 32).toNatClampNeg < 0 ∧ ∀ p, G 17 p = if p = (G 0 32).toNatClampNeg then t else g 17 p) ∨ (G 0 31 = 2 ∧ IXo g G ∧ g 17 (G 0 32).toNatClampNeg = t ∧ ∀ p, G 17 p = if p = (G 0 32).toNatClampNeg then -1 else g 17 p) ∨ (G 0 31 = 3 ∧ IXo g G ∧ g 17 (G 0 32).toNatClampNeg = t ∧ ∀ p, G 17 p = g 17 p) ∨ (G 0 31 = 4 ∧ iv 0 3 (G 0 32) ∧ OKp g G) ∨ (G 0 31 = 0 ∧ OKp g G)
def MKT (t : Int32) (g G : ph_H) : Prop := MKS t g G ∧ XO G ∧ K18 g G
theorem MKT_c {t : Int32} {g g' G G' : ph_H} (M : MKT t g G) (e17 : ∀ i, g' 17 i = g 17 i) (e18 : g' 0 18 = g 0 18) (d17 : ∀ i, G' 17 i = G 17 i) (d18 : G' 0 18 = G 0 18) (d29 : G' 0 29 = G 0 29) (d30 : G' 0 30 = G 0 30) (d31 : G' 0 31 = G 0 31) (d32 : G' 0 32 = G 0 32) : MKT t g' G' := by
  unfold MKT MKS XO K18 IXo OKp at *
  simp only [e17, e18, d17, d18, d29, d30, d31, d32]
  exact M
section
variable {t : Int32} {g : ph_H}
/-- of an INSTRUCTION -/
theorem ins_MK {i : Int32} (ht : iv 0 3 t) (L : LV g) (z31 : g 0 31 = 0) (z29 : g 0 29 = -2) (z30 : g 0 30 = -2) (cg : g 2 i.toNatClampNeg = 12 → ¬ FX12_isLock (FX12_local t (g 3 i.toNatClampNeg) g) g = 0 → g 17 (g 11 (FX12_local t (g 3 i.toNatClampNeg) g).toNatClampNeg).toNatClampNeg < 0 ∨ g 17 (g 11 (FX12_local t (g 3 i.toNatClampNeg) g).toNatClampNeg).toNatClampNeg = t) : MKT t g (FX12_instruct t i g) := by
  have sl := sl_lt (t := t) (a := g 3 i.toNatClampNeg) (g := g) ht
  have fail : ∀ v w : Int32, MKT t g (hs (hs g 0 25 v) 0 25 w) := fun v w => by
    refine ⟨Or.inr (Or.inr (Or.inr (Or.inr ⟨?_, fun p _ => ?_⟩))), Or.inl ?_, Or.inl ?_⟩
    · rw [hs_o (by simp), hs_o (by simp)]
      exact z31
    · rw [hs_o (by simp), hs_o (by simp)]
    · rw [hs_o (by simp), hs_o (by simp)]
      exact z29
    · rw [hs_o (by simp), hs_o (by simp)]
  have base : ∀ v w b c x6 y : Int32, (g 2 i.toNatClampNeg = 17 ∨ FX12_why t (g 2 i.toNatClampNeg) (FX12_local t (g 3 i.toNatClampNeg) g) (FX12_local t (g 4 i.toNatClampNeg) g) (FX12_local t (g 5 i.toNatClampNeg) g) (g 4 i.toNatClampNeg) g ≤ 0) → MKT t g (FX12_instruct_177 t i (FX12_local t (g 3 i.toNatClampNeg) g) b c x6 y (hs (hs g 0 25 v) 0 25 w)) := fun v w b c x6 y l => by
    have q : ∀ k j, ¬ (k = 0 ∧ j = 25) → hs (hs g 0 25 v) 0 25 w k j = g k j := fun k j n => by rw [hs_o n, hs_o n]
    obtain ⟨M, X, K⟩ := base_M (t := t) (i := i) (a := FX12_local t (g 3 i.toNatClampNeg) g) (b := b) (c := c) (x6 := x6) (y := y) (K := hs (hs g 0 25 v) 0 25 w) (by rw [q 0 31 (by decide)]; exact z31) (by rw [q 0 29 (by decide)]; exact z29) (by rw [q 0 30 (by decide)]; exact z30)
    generalize FX12_instruct_177 t i (FX12_local t (g 3 i.toNatClampNeg) g) b c x6 y (hs (hs g 0 25 v) 0 25 w) = R at *
    rw [q 2 _ (by omega), q 11 _ (by omega), q 3 _ (by omega)] at M
    have slot : ¬ g 10 (FX12_local t (g 3 i.toNatClampNeg) g).toNatClampNeg = 0 → 0 ≤ (g 11 (FX12_local t (g 3 i.toNatClampNeg) g).toNatClampNeg).toInt ∧ (g 11 (FX12_local t (g 3 i.toNatClampNeg) g).toNatClampNeg).toInt < (g 0 18).toInt := fun n => by
      rcases L.1 _ sl with w | ⟨a, b, _⟩
      · exact absurd w n
      · exact ⟨a, b⟩
    refine ⟨?_, X, ?_⟩
    · unfold MB at M
      rcases M with ⟨k, m1, m2, m3⟩ | ⟨k, m1, m2, m3⟩ | ⟨k, m1, m2, m3⟩ | ⟨m1, m2, m3⟩ | ⟨m1, m3⟩
      · have w := why12 (by
          rcases l with l | l
          · rw [k] at l
            exact absurd l (by decide)
          · rw [k] at l
            exact l)
        left
        refine ⟨m1, ?_, ?_, fun p => ?_⟩
        · unfold IXo
          rw [m2]
          exact slot (isLock_10 w.1)
        · rw [m2]
          rcases cg k w.1 with d | d
          · exact d
          · exact absurd d w.2
        · rw [m3, m2, q 17 p (by omega)]
      · have w : ¬ g 10 (FX12_local t (g 3 i.toNatClampNeg) g).toNatClampNeg = 0 ∧ g 17 (g 11 (FX12_local t (g 3 i.toNatClampNeg) g).toNatClampNeg).toNatClampNeg = t := by
          have l' : FX12_why t (g 2 i.toNatClampNeg) (FX12_local t (g 3 i.toNatClampNeg) g) (FX12_local t (g 4 i.toNatClampNeg) g) (FX12_local t (g 5 i.toNatClampNeg) g) (g 4 i.toNatClampNeg) g ≤ 0 := by
            rcases l with l | l
            · rcases k with k | k <;> (rw [k] at l; exact absurd l (by decide))
            · exact l
          rcases k with k | k
          · rw [k] at l'
            exact ⟨isLock_10 (why13 l').1, (why13 l').2⟩
          · have := why145 (Or.inl k) l'
            exact ⟨by rw [this.1]; decide, this.2⟩
        right
        left
        refine ⟨m1, ?_, ?_, fun p => ?_⟩
        · unfold IXo
          rw [m2]
          exact slot w.1
        · rw [m2]
          exact w.2
        · rw [m3, m2, q 17 p (by omega)]
      · have w := why145 (Or.inr k) (by
          rcases l with l | l
          · rw [k] at l
            exact absurd l (by decide)
          · exact l)
        right
        right
        left
        refine ⟨m1, ?_, ?_, fun p => ?_⟩
        · unfold IXo
          rw [m2]
          exact slot (by rw [w.1]; decide)
        · rw [m2]
          exact w.2
        · rw [m3, q 17 p (by omega)]
      · right
        right
        right
        left
        refine ⟨m1, by rw [m2]; exact modulo_iv (m := 4) rfl, fun p hp => ?_⟩
        rw [m3 p (by rw [q 0 18 (by decide)]; exact hp), q 17 p (by omega)]
      · right
        right
        right
        right
        refine ⟨m1, fun p hp => ?_⟩
        rw [m3 p (by rw [q 0 18 (by decide)]; exact hp), q 17 p (by omega)]
    · unfold K18 at K
      rw [q 0 18 (by decide)] at K
      exact K
  have A : ∀ (v b c s0 : Int32), (s0 ≤ 0 → (g 2 i.toNatClampNeg = 17 ∨ FX12_why t (g 2 i.toNatClampNeg) (FX12_local t (g 3 i.toNatClampNeg) g) (FX12_local t (g 4 i.toNatClampNeg) g) (FX12_local t (g 5 i.toNatClampNeg) g) (g 4 i.toNatClampNeg) g ≤ 0)) → MKT t g (FX12_instruct_102 t i (FX12_local t (g 3 i.toNatClampNeg) g) b c s0 (hs g 0 25 v)) := fun v b c s0 l => by
    unfold FX12_instruct_102 FX12_instruct_144 FX12_instruct_148 FX12_instruct_149
    by_cases d : s0 ≤ 0
    · rw [if_pos d]
      repeat' split
      all_goals exact base _ _ _ _ _ _ (l d)
    · rw [if_neg d]
      exact fail _ _
  unfold FX12_instruct FX12_instruct_98
  by_cases k17 : g 2 i.toNatClampNeg = 17
  · rw [if_pos k17]
    split
    · exact A _ _ _ _ (fun _ => Or.inl k17)
    · exact A _ _ _ _ (fun _ => Or.inl k17)
  · rw [if_neg k17]
    refine A _ _ _ _ (fun w => Or.inr ?_)
    rw [hs_self] at w
    exact w
theorem step_MK (ht : iv 0 3 t) (L : LV g) (c : ¬ FX12_canGo t g = 0) (na : ¬ asksU t g) : MKT t g (FX12_step t g) := by
  have k0 : (0 : Int32).toInt = 0 := by decide
  obtain ⟨c13, c12, c14⟩ := cg_true c
  unfold FX12_step
  by_cases w : g 15 t.toNatClampNeg < 0
  · rw [if_pos w]
    have Z : MKT t g (FX12_step_148 t ((24 * t) + g 12 t.toNatClampNeg) (hs (hs (hs (hs (hs (hs g 0 27 (g 12 t.toNatClampNeg)) 0 28 (g 2 ((24 * t) + g 12 t.toNatClampNeg).toNatClampNeg)) 0 29 (-2)) 0 30 (-2)) 0 31 0) 0 32 (-1))) := by
      generalize eK : hs (hs (hs (hs (hs (hs g 0 27 (g 12 t.toNatClampNeg)) 0 28 (g 2 ((24 * t) + g 12 t.toNatClampNeg).toNatClampNeg)) 0 29 (-2)) 0 30 (-2)) 0 31 0) 0 32 (-1) = K
      have q : ∀ k j, ¬ k = 0 → K k j = g k j := fun k j n => by
        rw [← eK, hs_o (fun e => n e.1), hs_o (fun e => n e.1), hs_o (fun e => n e.1), hs_o (fun e => n e.1), hs_o (fun e => n e.1), hs_o (fun e => n e.1)]
      have q18 : K 0 18 = g 0 18 := by rw [← eK, hs_o (by simp), hs_o (by simp), hs_o (by simp), hs_o (by simp), hs_o (by simp), hs_o (by simp)]
      have q31 : K 0 31 = 0 := by rw [← eK, hs_o (by simp), hs_self]
      have q29 : K 0 29 = -2 := by rw [← eK, hs_o (by simp), hs_o (by simp), hs_o (by simp), hs_self]
      have q30 : K 0 30 = -2 := by rw [← eK, hs_o (by simp), hs_o (by simp), hs_self]
      have LK : LV K := by
        have e2 : ∀ i, K 2 i = g 2 i := fun i => q 2 i (by decide)
        have e10 : ∀ i, K 10 i = g 10 i := fun i => q 10 i (by decide)
        have e11 : ∀ i, K 11 i = g 11 i := fun i => q 11 i (by decide)
        have e14 : ∀ i, K 14 i = g 14 i := fun i => q 14 i (by decide)
        have e15 : ∀ i, K 15 i = g 15 i := fun i => q 15 i (by decide)
        have e16 : ∀ i, K 16 i = g 16 i := fun i => q 16 i (by decide)
        simpa only [LV, e2, e10, e11, e14, e15, e16, q18] using L
      have cg : K 2 ((24 * t) + g 12 t.toNatClampNeg).toNatClampNeg = 12 → ¬ FX12_isLock (FX12_local t (K 3 ((24 * t) + g 12 t.toNatClampNeg).toNatClampNeg) K) K = 0 → K 17 (K 11 (FX12_local t (K 3 ((24 * t) + g 12 t.toNatClampNeg).toNatClampNeg) K).toNatClampNeg).toNatClampNeg < 0 ∨ K 17 (K 11 (FX12_local t (K 3 ((24 * t) + g 12 t.toNatClampNeg).toNatClampNeg) K).toNatClampNeg).toNatClampNeg = t := fun k l => by
        have e10 : ∀ i, K 10 i = g 10 i := fun i => q 10 i (by decide)
        have lk : FX12_isLock (FX12_local t (K 3 ((24 * t) + g 12 t.toNatClampNeg).toNatClampNeg) K) K = FX12_isLock (FX12_local t (g 3 ((24 * t) + g 12 t.toNatClampNeg).toNatClampNeg) g) g := by
          unfold FX12_isLock FX12_isLock_20 FX12_local
          rw [q 3 _ (by decide), e10]
        have lo : FX12_local t (K 3 ((24 * t) + g 12 t.toNatClampNeg).toNatClampNeg) K = FX12_local t (g 3 ((24 * t) + g 12 t.toNatClampNeg).toNatClampNeg) g := by
          unfold FX12_local
          rw [q 3 _ (by decide)]
        rw [lk] at l
        rw [q 2 _ (by decide)] at k
        rw [lo, q 11 _ (by decide), q 17 _ (by decide)]
        unfold FX12_canGo at c
        rw [if_neg c13, if_neg c12, if_pos c14, if_pos w, if_pos k, if_neg l] at c
        unfold FX12_canGo_108 at c
        rw [if_neg (by decide)] at c
        by_cases d : g 17 (g 11 (FX12_local t (g 3 ((24 * t) + g 12 t.toNatClampNeg).toNatClampNeg) g).toNatClampNeg).toNatClampNeg < 0
        · exact Or.inl d
        · rw [if_neg d] at c
          by_cases e : g 17 (g 11 (FX12_local t (g 3 ((24 * t) + g 12 t.toNatClampNeg).toNatClampNeg) g).toNatClampNeg).toNatClampNeg = t
          · exact Or.inr e
          · rw [if_neg e] at c
            exact absurd rfl c
      have M := ins_MK (i := (24 * t) + g 12 t.toNatClampNeg) ht LK q31 q29 q30 cg
      unfold FX12_step_148 FX12_step_154
      exact MKT_c M (fun i => (q 17 i (by decide)).symm) q18.symm (fun i => by rw [hs_o (by simp), hs_o (by simp)]) (by rw [hs_o (by simp), hs_o (by simp)]) (by rw [hs_o (by simp), hs_o (by simp)]) (by rw [hs_o (by simp), hs_o (by simp)]) (by rw [hs_o (by simp), hs_o (by simp)]) (by rw [hs_o (by simp), hs_o (by simp)])
    by_cases d : g 2 ((24 * t) + g 12 t.toNatClampNeg).toNatClampNeg = 16
    · rw [if_pos d]
      by_cases e : g 0 33 = 0
      · rw [if_pos e]
        exact Z
      · rw [if_neg e, if_neg (fun f => na ⟨w, d, e, f⟩)]
        exact Z
    · rw [if_neg d]
      exact Z
  · rw [if_neg w]
    have w' := w
    rw [Int32.lt_iff_toInt_lt, k0] at w'
    have lt := (L.2.1 _ (t_lt ht)).2
    have free : g 17 (g 15 t.toNatClampNeg).toNatClampNeg < 0 := by
      unfold FX12_canGo at c
      rw [if_neg c13, if_neg c12, if_pos c14, if_neg w] at c
      by_cases d : 0 ≤ g 17 (g 15 t.toNatClampNeg).toNatClampNeg
      · rw [if_pos d] at c
        exact absurd rfl c
      · rw [Int32.le_iff_toInt_le, k0] at d
        rw [Int32.lt_iff_toInt_lt, k0]
        omega
    unfold FX12_step_110 FX12_step_154
    have G32 : hs (hs (FX12_goTo t (g 12 t.toNatClampNeg + 1) (hs (hs (hs (hs (hs (hs (hs (hs (hs (hs g 0 27 (g 12 t.toNatClampNeg)) 0 28 (g 2 ((24 * t) + g 12 t.toNatClampNeg).toNatClampNeg)) 0 29 (-2)) 0 30 (-2)) 0 31 0) 0 32 (-1)) 17 (g 15 t.toNatClampNeg).toNatClampNeg t) 0 31 1) 0 32 (g 15 t.toNatClampNeg)) 15 t.toNatClampNeg (-1))) 0 24 (FX12_goTo t (g 12 t.toNatClampNeg + 1) (hs (hs (hs (hs (hs (hs (hs (hs (hs (hs g 0 27 (g 12 t.toNatClampNeg)) 0 28 (g 2 ((24 * t) + g 12 t.toNatClampNeg).toNatClampNeg)) 0 29 (-2)) 0 30 (-2)) 0 31 0) 0 32 (-1)) 17 (g 15 t.toNatClampNeg).toNatClampNeg t) 0 31 1) 0 32 (g 15 t.toNatClampNeg)) 15 t.toNatClampNeg (-1)) 0 24 + 1)) 0 26 t 0 32 = g 15 t.toNatClampNeg := by
      rw [hs_o (by simp), hs_o (by simp), goTo_o _ _ _ _ _ (by simp), hs_o (by simp), hs_self]
    refine ⟨Or.inl ⟨?_, ?_, ?_, fun p => ?_⟩, Or.inl ?_, Or.inl ?_⟩
    · rw [hs_o (by simp), hs_o (by simp), goTo_o _ _ _ _ _ (by simp), hs_o (by simp), hs_o (by simp), hs_self]
    · unfold IXo
      rw [G32]
      exact ⟨by omega, lt⟩
    · rw [G32]
      exact free
    · rw [G32, hs_o (by simp), hs_o (by simp), goTo_o _ _ _ _ _ (by simp), hs_o (by simp), hs_o (by simp), hs_o (by simp)]
      by_cases d : p = (g 15 t.toNatClampNeg).toNatClampNeg
      · rw [if_pos d, d, hs_self]
      · rw [if_neg d, hs_o (fun e => d e.2), hs_o (by simp), hs_o (by simp), hs_o (by simp), hs_o (by simp), hs_o (by simp), hs_o (by simp)]
    · rw [hs_o (by simp), hs_o (by simp), goTo_o _ _ _ _ _ (by simp), hs_o (by simp), hs_o (by simp), hs_o (by simp), hs_o (by simp), hs_o (by simp), hs_o (by simp), hs_o (by simp), hs_self]
    · rw [hs_o (by simp), hs_o (by simp), goTo_o _ _ _ _ _ (by simp), hs_o (by simp), hs_o (by simp), hs_o (by simp), hs_o (by simp), hs_o (by simp), hs_o (by simp), hs_o (by simp), hs_o (by simp), hs_o (by simp), hs_o (by simp)]
end
/-- the record of a step and the states around it -/
def MKR (g G G' : ph_H) (s : Nat) : Prop := (g 32 s = -2 ∨ g 33 s = -2) ∧ K18 G G' ∧ ((g 34 s = 1 ∧ (0 ≤ (g 35 s).toInt ∧ (g 35 s).toInt < (G 0 18).toInt) ∧ G 17 (g 35 s).toNatClampNeg < 0 ∧ ∀ p, G' 17 p = if p = (g 35 s).toNatClampNeg then g 29 s else G 17 p) ∨ (g 34 s = 2 ∧ (0 ≤ (g 35 s).toInt ∧ (g 35 s).toInt < (G 0 18).toInt) ∧ G 17 (g 35 s).toNatClampNeg = g 29 s ∧ ∀ p, G' 17 p = if p = (g 35 s).toNatClampNeg then -1 else G 17 p) ∨ (g 34 s = 3 ∧ (0 ≤ (g 35 s).toInt ∧ (g 35 s).toInt < (G 0 18).toInt) ∧ G 17 (g 35 s).toNatClampNeg = g 29 s ∧ ∀ p, G' 17 p = G 17 p) ∨ (g 34 s = 4 ∧ iv 0 3 (g 35 s) ∧ OKp G G') ∨ (g 34 s = 0 ∧ OKp G G'))
theorem skR {g : ph_H} {t : Int32} (na : ¬ asksU t (cg1 t g)) : ∀ k i, 29 ≤ k → k ≤ 35 → ¬ i = (g 0 24 + 1).toNatClampNeg → FX12_stepKept t g k i = g k i := by
  have fs := frS_FX12_step (h0 := cg1 t g) t (cg1 t g) (EQ_r _)
  obtain ⟨x24, -⟩ := step_rec na
  rw [cg1_o t g _ _ (by decide) (by decide) (by decide)] at x24
  intro k i h1 h2 hi
  rw [sk_r k _ (by omega) (by omega), kW_o _ _ _ _ (by rw [kI_o _ _ 0 24 (by decide), x24]; omega), kI_o _ _ _ _ (by omega), fs k i (by unfold pS; split <;> first | omega | rfl), cg1_o t g _ _ (by omega) (by omega) (by omega)]
theorem MKR_sk {g : ph_H} {t : Int32} (ht : iv 0 3 t) (L : LV g) (c : ¬ FX12_canGo t (cg1 t g) = 0) (na : ¬ asksU t (cg1 t g)) (F : FL (FX12_step t (cg1 t g))) : MKR (FX12_stepKept t g) g (FX12_stepKept t g) (g 0 24 + 1).toNatClampNeg := by
  have k0 : (0 : Int32).toInt = 0 := by decide
  obtain ⟨x24, -⟩ := step_rec na
  rw [cg1_o t g _ _ (by decide) (by decide) (by decide)] at x24
  have q : ∀ k j, ¬ k = 0 → ¬ k = 37 → ¬ k = 38 → cg1 t g k j = g k j := fun k j a b d => cg1_o t g k j b d (fun w => a w.1)
  have q18 : cg1 t g 0 18 = g 0 18 := cg1_o t g _ _ (by decide) (by decide) (by decide)
  have L1 : LV (cg1 t g) := by
    have e2 : ∀ i, cg1 t g 2 i = g 2 i := fun i => q 2 i (by decide) (by decide) (by decide)
    have e10 : ∀ i, cg1 t g 10 i = g 10 i := fun i => q 10 i (by decide) (by decide) (by decide)
    have e11 : ∀ i, cg1 t g 11 i = g 11 i := fun i => q 11 i (by decide) (by decide) (by decide)
    have e14 : ∀ i, cg1 t g 14 i = g 14 i := fun i => q 14 i (by decide) (by decide) (by decide)
    have e15 : ∀ i, cg1 t g 15 i = g 15 i := fun i => q 15 i (by decide) (by decide) (by decide)
    have e16 : ∀ i, cg1 t g 16 i = g 16 i := fun i => q 16 i (by decide) (by decide) (by decide)
    simpa only [LV, e2, e10, e11, e14, e15, e16, q18] using L
  obtain ⟨M, X, K⟩ := step_MK ht L1 c na
  obtain ⟨f1, f2, -⟩ := F
  have r29 : FX12_stepKept t g 29 (g 0 24 + 1).toNatClampNeg = t := by
    rw [sk_r 29 _ (by omega) (by omega)]
    unfold kW
    rw [kI_o _ _ 0 24 (by decide), x24]
    simp [hs_get]
  have r32 : FX12_stepKept t g 32 (g 0 24 + 1).toNatClampNeg = if FX12_step t (cg1 t g) 0 25 ≤ 0 then FX12_step t (cg1 t g) 0 29 else -2 := by
    rw [sk_r 32 _ (by omega) (by omega)]
    unfold kW
    rw [kI_o _ _ 0 24 (by decide), kI_o _ _ 0 25 (by decide), kI_o _ _ 0 29 (by decide), x24]
    simp [hs_get]
  have r33 : FX12_stepKept t g 33 (g 0 24 + 1).toNatClampNeg = if FX12_step t (cg1 t g) 0 25 ≤ 0 then FX12_step t (cg1 t g) 0 30 else -2 := by
    rw [sk_r 33 _ (by omega) (by omega)]
    unfold kW
    rw [kI_o _ _ 0 24 (by decide), kI_o _ _ 0 25 (by decide), kI_o _ _ 0 30 (by decide), x24]
    simp [hs_get]
  have r34 : FX12_stepKept t g 34 (g 0 24 + 1).toNatClampNeg = FX12_step t (cg1 t g) 0 31 := by
    rw [sk_r 34 _ (by omega) (by omega)]
    unfold kW
    rw [kI_o _ _ 0 24 (by decide), kI_o _ _ 0 25 (by decide), kI_o _ _ 0 31 (by decide), x24]
    have : (if FX12_step t (cg1 t g) 0 25 ≤ 0 then FX12_step t (cg1 t g) 0 31 else 0) = FX12_step t (cg1 t g) 0 31 := by
      by_cases d : FX12_step t (cg1 t g) 0 25 ≤ 0
      · rw [if_pos d]
      · rw [if_neg d, (f2 (fun w => d (by rw [w]; decide))).2.2]
    rw [this]
    simp [hs_get]
  have r35 : FX12_stepKept t g 35 (g 0 24 + 1).toNatClampNeg = FX12_step t (cg1 t g) 0 32 := by
    rw [sk_r 35 _ (by omega) (by omega)]
    unfold kW
    rw [kI_o _ _ 0 24 (by decide), kI_o _ _ 0 32 (by decide), x24]
    simp [hs_get]
  have s17 : ∀ p, FX12_stepKept t g 17 p = FX12_step t (cg1 t g) 17 p := fun p => sk_o na 17 p (by omega)
  have s18 : FX12_stepKept t g 0 18 = FX12_step t (cg1 t g) 0 18 := sk_o na 0 18 (by omega)
  have g17 : ∀ p, cg1 t g 17 p = g 17 p := fun p => q 17 p (by decide) (by decide) (by decide)
  refine ⟨?_, ?_, ?_⟩
  · rw [r32, r33]
    by_cases d : FX12_step t (cg1 t g) 0 25 ≤ 0
    · rw [if_pos d, if_pos d]
      exact X
    · rw [if_neg d]
      exact Or.inl rfl
  · unfold K18 at *
    rw [s18, ← q18]
    exact K
  · unfold MKS IXo OKp at M
    unfold OKp
    simp only [r29, r34, r35, s17]
    simp only [g17, q18] at M
    exact M
end MG_48_x32H2
section MG_48_x33B1s
/-! THE STATES of a run, one behind each step -/
theorem canGo_c {t : Int32} {g g' : ph_H} (e2 : ∀ i, g' 2 i = g 2 i) (e3 : ∀ i, g' 3 i = g 3 i) (e10 : ∀ i, g' 10 i = g 10 i) (e11 : ∀ i, g' 11 i = g 11 i) (e12 : ∀ i, g' 12 i = g 12 i) (e13 : ∀ i, g' 13 i = g 13 i) (e14 : ∀ i, g' 14 i = g 14 i) (e15 : ∀ i, g' 15 i = g 15 i) (e17 : ∀ i, g' 17 i = g 17 i) : FX12_canGo t g' = FX12_canGo t g := by
  unfold FX12_canGo FX12_canGo_107 FX12_canGo_108 FX12_canGo_144 FX12_isLock FX12_isLock_20 FX12_local
  simp only [e2, e3, e10, e11, e12, e13, e14, e15, e17]
def STEP (t : Int32) (G G' : ph_H) : Prop := (∀ h, RC h G → RC (FX3_go_s t h).2 G') ∧ (∀ h, RCo2 h G → RCo2 (FX3_go_oc2 t h).2 G')
theorem step_any {z : zT} {g : ph_H} {t : Int32} (I : IM z g) (ht : iv 0 3 t) (c : ¬ FX12_canGo t g = 0) (nf : g 0 25 = 0) (nk : g 0 33 = 0) (ns : iv 0 299 (g 0 24)) (hch : (g 0 60).toInt ≤ (g 0 24).toInt) : STEP t g (FX12_stepKept t g) := by
  obtain ⟨z1, I1⟩ := cg1_IM (t := t) I ht hch ns
  have co := cg1_o t g
  have ce : ∀ k i, ¬ k = 0 → ¬ k = 37 → ¬ k = 38 → cg1 t g k i = g k i := fun k i a b c => co k i b c (fun w => a w.1)
  have c1 : ¬ FX12_canGo t (cg1 t g) = 0 := by
    rw [canGo_c (g := g) (fun i => ce _ i (by decide) (by decide) (by decide)) (fun i => ce _ i (by decide) (by decide) (by decide)) (fun i => ce _ i (by decide) (by decide) (by decide)) (fun i => ce _ i (by decide) (by decide) (by decide)) (fun i => ce _ i (by decide) (by decide) (by decide)) (fun i => ce _ i (by decide) (by decide) (by decide)) (fun i => ce _ i (by decide) (by decide) (by decide)) (fun i => ce _ i (by decide) (by decide) (by decide)) (fun i => ce _ i (by decide) (by decide) (by decide))]
    exact c
  have nf1 : cg1 t g 0 25 = 0 := by rw [co _ _ (by decide) (by decide) (by decide)]; exact nf
  have nk1 : cg1 t g 0 33 = 0 := by rw [co _ _ (by decide) (by decide) (by decide)]; exact nk
  have na : ¬ asksU t (cg1 t g) := fun a => a.2.2.1 nk1
  have fs := frS_FX12_step (h0 := cg1 t g) t (cg1 t g) (EQ_r _)
  have rm1 : ∀ k i, rM k i = true → cg1 t g k i = g k i := fun k i q => co k i (fun e => by rw [e] at q; exact absurd q (by simp [rM])) (fun e => by rw [e] at q; exact absurd q (by simp [rM])) (fun e => by rw [e.1, e.2] at q; exact absurd q (by decide))
  have rm2 : ∀ k i, rM k i = true → FX12_stepKept t g k i = FX12_step t (cg1 t g) k i := fun k i q => sk_o na k i (by
    unfold rM at q
    split at q <;> first | omega | (exact absurd q (by decide)))
  have n33 : FX12_step t (cg1 t g) 0 33 = 0 := by rw [fs 0 33 rfl]; exact nk1
  refine ⟨fun h R => ?_, fun h R => ?_⟩
  · have R1 : RC h (cg1 t g) := R.congr (fun _ _ _ => rfl) rm1 (fun n => absurd nk n)
    exact (go_eq R1 I1 ht c1 nf1 na).2.1.congr (fun _ _ _ => rfl) rm2 (fun n => absurd n33 n)
  · have R1 : RCo2 h (cg1 t g) := R.congro2 (fun _ _ _ => rfl) rm1 (fun n => absurd nk n)
    exact (go_eqo2 R1 I1 ht c1 nf1 na).2.1.congro2 (fun _ _ _ => rfl) rm2 (fun n => absurd n33 n)
theorem KR_c {g : ph_H} {s : Nat} {G G' : ph_H} (e : ∀ k i, (1 ≤ k ∧ k < 20) → G' k i = G k i) (e18 : G' 0 18 = G 0 18) (K : KR g s G) : KR g s G' := by
  obtain ⟨a, b, c, d⟩ := K
  refine ⟨fun k hk => ?_, fun t ht => ?_, ?_, ⟨fun x hx => ?_, fun i hi => ?_⟩⟩
  · rw [e 10 k (by omega), e 11 k (by omega)]
    exact a k hk
  · rw [e 12 _ (by omega), state_c (g := G) (fun i => e _ i (by omega)) (fun i => e _ i (by omega)) (fun i => e _ i (by omega)) (fun i => e _ i (by omega)) (fun i => e _ i (by omega)) (fun i => e _ i (by omega)) (fun i => e _ i (by omega)) (fun i => e _ i (by omega)) (fun i => e _ i (by omega))]
    exact b t ht
  · rw [e18]
    exact c
  · rw [e18] at hx
    rw [e 16 x (by omega), e 17 x (by omega), e 18 x (by omega)]
    exact d.1 x hx
  · rw [e18] at hi
    rw [e 19 i (by omega)]
    exact d.2 i hi
theorem KR_r {g g' : ph_H} {s : Nat} {G : ph_H} (e : ∀ k i, (20 ≤ k ∧ k ≤ 28) → g' k i = g k i) (K : KR g s G) : KR g' s G := by
  obtain ⟨a, b, c, d⟩ := K
  refine ⟨fun k hk => ?_, fun t ht => ?_, ?_, ⟨fun x hx => ?_, fun i hi => ?_⟩⟩
  · rw [e 20 _ (by omega), e 21 _ (by omega)]
    exact a k hk
  · rw [e 22 _ (by omega), e 23 _ (by omega)]
    exact b t ht
  · rw [e 24 _ (by omega)]
    exact c
  · rw [e 25 _ (by omega), e 26 _ (by omega), e 27 _ (by omega)]
    exact d.1 x hx
  · rw [e 28 _ (by omega)]
    exact d.2 i hi
/-- the kept rows behind stepKept -/
theorem sk_KR' {g : ph_H} {t : Int32} (na : ¬ asksU t (cg1 t g)) (s300 : iv 0 300 (FX12_step t (cg1 t g) 0 24)) (tn : 0 ≤ (FX12_step t (cg1 t g) 0 18).toInt ∧ (FX12_step t (cg1 t g) 0 18).toInt ≤ 12) : KR (FX12_stepKept t g) (FX12_step t (cg1 t g) 0 24).toNatClampNeg (FX12_stepKept t g) ∧ ∀ (s' : Nat) (G : ph_H), (s' : Int) < (FX12_step t (cg1 t g) 0 24).toInt → (G 0 18).toInt ≤ 12 → KR g s' G → KR (FX12_stepKept t g) s' G := by
  have fs := frS_FX12_step (h0 := cg1 t g) t (cg1 t g) (EQ_r _)
  have w : ∀ k i, (k < 29) → kW t (kI (g 0 23) (FX12_step t (cg1 t g))) k i = FX12_step t (cg1 t g) k i := fun k i q => by rw [kW_o _ _ _ _ (by omega), kI_o _ _ _ _ (by omega)]
  have K := keep_KR (s := FX12_step t (cg1 t g) 0 24) (g := kW t (kI (g 0 23) (FX12_step t (cg1 t g)))) s300 (by rw [w 0 18 (by omega)]; exact tn.1) (by rw [w 0 18 (by omega)]; exact tn.2)
  rw [← sk_eq] at K
  refine ⟨KR_c (fun k i q => ?_) ?_ K.1, fun s' G a b c => K.2 s' G a b (KR_r (fun k i q => ?_) c)⟩
  · rw [sk_o na k i (by omega), w k i (by omega)]
  · rw [sk_o na 0 18 (by omega), w 0 18 (by omega)]
  · rw [w k i (by omega), fs k i (by unfold pS; split <;> first | omega | rfl), cg1_o t g k i (by omega) (by omega) (by omega)]
theorem sk29 {g : ph_H} {t : Int32} (na : ¬ asksU t (cg1 t g)) : FX12_stepKept t g 29 (g 0 24 + 1).toNatClampNeg = t ∧ ∀ i, ¬ i = (g 0 24 + 1).toNatClampNeg → FX12_stepKept t g 29 i = g 29 i := by
  have fs := frS_FX12_step (h0 := cg1 t g) t (cg1 t g) (EQ_r _)
  obtain ⟨x24, -⟩ := step_rec na
  rw [cg1_o t g _ _ (by decide) (by decide) (by decide)] at x24
  refine ⟨?_, fun i hi => ?_⟩
  · rw [sk_r 29 _ (by omega) (by omega)]
    unfold kW
    rw [kI_o _ _ 0 24 (by decide), x24]
    simp [hs_get]
  · rw [sk_r 29 _ (by omega) (by omega), kW_o _ _ _ _ (by rw [kI_o _ _ 0 24 (by decide), x24]; omega), kI_o _ _ _ _ (by decide), fs 29 i rfl, cg1_o t g _ _ (by decide) (by decide) (by omega)]
/-- the program THEN of the class is that of a state -/
def TP (h G : ph_H) : Prop := PR h G ∧ h 8 6 = kn G ∧ 0 ≤ (kn G).toInt ∧ ∀ k : Nat, (k : Int) < (kn G).toInt → h 12 k = vi G k
def BEG (G : ph_H) : Prop := ∀ h, TP h G → RC (FX3_begin_st (h 8 6) h) G ∧ RCo2 (FX3_begin_ot (h 8 6) h) G
def SQ (g : ph_H) (Gs : Nat → ph_H) (n : Nat) : Prop := (∀ s, s ≤ n → (∃ z, IM z (Gs s)) ∧ KR g s (Gs s) ∧ NW (Gs s)) ∧ (∀ s, s < n → iv 0 3 (g 29 (s + 1)) ∧ STEP (g 29 (s + 1)) (Gs s) (Gs (s + 1)) ∧ CW g (Gs s) (Gs (s + 1)) (s + 1) ∧ MKR g (Gs s) (Gs (s + 1)) (s + 1)) ∧ BEG (Gs 0)
theorem MKR_r {g g' G G' : ph_H} {s : Nat} (e : ∀ k i, (29 ≤ k ∧ k ≤ 35) → g' k i = g k i) (M : MKR g G G' s) : MKR g' G G' s := by
  unfold MKR at *
  simp only [e 29 s (by omega), e 32 s (by omega), e 33 s (by omega), e 34 s (by omega), e 35 s (by omega)]
  exact M
theorem SQ_fr {g g' : ph_H} {Gs : Nat → ph_H} {n : Nat} (S : SQ g Gs n) (e : ∀ k i, (20 ≤ k ∧ k ≤ 35) → g' k i = g k i) : SQ g' Gs n := ⟨fun s hs => ⟨(S.1 s hs).1, KR_r (fun k i q => e k i (by omega)) (S.1 s hs).2.1, (S.1 s hs).2.2⟩, fun s hs => ⟨by rw [e 29 _ (by omega)]; exact (S.2.1 s hs).1, by rw [e 29 _ (by omega)]; exact (S.2.1 s hs).2.1, fun k hk => by rw [e 33 _ (by omega)]; exact (S.2.1 s hs).2.2.1 k hk, MKR_r (fun k i q => e k i (by omega)) (S.2.1 s hs).2.2.2⟩, S.2.2⟩
def SH (h g : ph_H) : Prop := ∃ Gs, SQ g Gs (g 0 24).toNatClampNeg ∧ Gs (g 0 24).toNatClampNeg = g ∧ TP h (Gs 0) ∧ IK g ∧ CI g (g 0 24)
theorem TP_fr {h h' G : ph_H} (P : TP h G) (e : ∀ k i, (8 ≤ k ∧ k ≤ 14) → h' k i = h k i) : TP h' G := by
  have c9 : ∀ i, h' 9 i = h 9 i := fun i => e _ _ (by omega)
  have c10 : ∀ i, h' 10 i = h 10 i := fun i => e _ _ (by omega)
  have c11 : ∀ i, h' 11 i = h 11 i := fun i => e _ _ (by omega)
  have c12 : ∀ i, h' 12 i = h 12 i := fun i => e _ _ (by omega)
  have c8 : h' 8 6 = h 8 6 := e _ _ (by omega)
  simpa only [TP, PR, Rpr, c8, c9, c10, c11, c12] using P
theorem SH_adv {z z2 : zT} {h h' g : ph_H} {t : Int32} (S : SH h g) (I : IM z g) (I2 : IM z2 (FX12_stepKept t g)) (ht : iv 0 3 t) (c : ¬ FX12_canGo t g = 0) (nf : g 0 25 = 0) (nk : g 0 33 = 0) (ns : iv 0 299 (g 0 24)) (hch : (g 0 60).toInt ≤ (g 0 24).toInt) (L : LV g) (F : FL (FX12_step t (cg1 t g))) (cc : ¬ FX12_canGo t (cg1 t g) = 0) (eh : ∀ k i, (8 ≤ k ∧ k ≤ 14) → h' k i = h k i) : SH h' (FX12_stepKept t g) := by
  have k1 : (1 : Int32).toInt = 1 := by decide
  have sn := iv_nat ns rfl
  have st := step_any I ht c nf nk ns hch
  unfold iv at ns
  have es : (g 0 24 + 1).toInt = (g 0 24).toInt + 1 := by rw [ti_add (by omega) (by omega), k1]
  have en : (g 0 24 + 1).toNatClampNeg = (g 0 24).toNatClampNeg + 1 := by
    have : ((g 0 24 + 1).toNatClampNeg : Int) = (g 0 24).toInt + 1 := by
      rw [← Int32.toNat_toInt]
      omega
    omega
  have nk1 : cg1 t g 0 33 = 0 := by rw [cg1_o t g _ _ (by decide) (by decide) (by decide)]; exact nk
  have na : ¬ asksU t (cg1 t g) := fun a => a.2.2.1 nk1
  obtain ⟨x24, -⟩ := step_rec na
  rw [cg1_o t g _ _ (by decide) (by decide) (by decide)] at x24
  obtain ⟨z1, I1⟩ := cg1_IM (t := t) I ht hch ⟨ns.1, ns.2⟩
  obtain ⟨r1, r2⟩ := sk29 na
  have r3 := sk33 na
  have cw := CW_sk ht na
  have mk := MKR_sk ht L cc na F
  have r5 := skR na
  have e24 : FX12_stepKept t g 0 24 = g 0 24 + 1 := by rw [sk_o na 0 24 (by omega), x24]
  have tb : 0 ≤ (FX12_step t (cg1 t g) 0 18).toInt ∧ (FX12_step t (cg1 t g) 0 18).toInt ≤ 12 := by
    rw [← sk_o na 0 18 (by omega)]
    exact th_nn I2
  have K := sk_KR' na (by rw [x24]; unfold iv; omega) tb
  rw [x24, en] at K
  rw [en] at r1 r2 r3 cw mk r5
  obtain ⟨Gs, ⟨q1, q2, q3⟩, q4, q5, q6, q7⟩ := S
  have ns2 : iv 0 299 (g 0 24) := ⟨ns.1, ns.2⟩
  have f23 : iv 0 30 (g 0 23) := IMv I 0 23
  refine ⟨fun s => if s ≤ (g 0 24).toNatClampNeg then Gs s else FX12_stepKept t g, ⟨fun s hs => ?_, fun s hs => ?_, ?_⟩, ?_, ?_, IK_sk na f23 q6, CI_sk ht na ns2 I hch q7⟩
  · rw [e24, en] at hs
    by_cases d : s ≤ (g 0 24).toNatClampNeg
    · obtain ⟨⟨z', J⟩, k, nw⟩ := q1 s d
      simp only [if_pos d]
      exact ⟨⟨z', J⟩, K.2 s _ (by omega) (th_nn J).2 k, nw⟩
    · have : s = (g 0 24).toNatClampNeg + 1 := by omega
      simp only [if_neg d]
      rw [this]
      refine ⟨⟨z2, I2⟩, K.1, NW_sk ht c na ?_⟩
      rw [← q4]
      exact (q1 _ (Nat.le_refl _)).2.2
  · rw [e24, en] at hs
    by_cases d : s = (g 0 24).toNatClampNeg
    · subst d
      have n : ¬ (g 0 24).toNatClampNeg + 1 ≤ (g 0 24).toNatClampNeg := by omega
      simp only [if_neg n, if_pos (Nat.le_refl _)]
      rw [r1, q4]
      exact ⟨ht, st, cw, mk⟩
    · have n : s + 1 ≤ (g 0 24).toNatClampNeg := by omega
      have n2 : s ≤ (g 0 24).toNatClampNeg := by omega
      simp only [if_pos n, if_pos n2]
      obtain ⟨u1, u2, u3, u4⟩ := q2 s (by omega)
      rw [r2 (s + 1) (by omega)]
      refine ⟨u1, u2, fun k hk => by rw [r3 (s + 1) (by omega)]; exact u3 k hk, ?_⟩
      unfold MKR at *
      simp only [r5 29 (s + 1) (by omega) (by omega) (by omega), r5 32 (s + 1) (by omega) (by omega) (by omega), r5 33 (s + 1) (by omega) (by omega) (by omega), r5 34 (s + 1) (by omega) (by omega) (by omega), r5 35 (s + 1) (by omega) (by omega) (by omega)]
      exact u4
  · simp only [if_pos (Nat.zero_le _)]
    exact q3
  · rw [e24, en]
    have n : ¬ (g 0 24).toNatClampNeg + 1 ≤ (g 0 24).toNatClampNeg := by omega
    simp only [if_neg n]
  · simp only [if_pos (Nat.zero_le _)]
    exact TP_fr q5 eh
end MG_48_x33B1s
section MG_48_x34F1
def pC (k i : Nat) : Bool := match k with
  | 0 => i == 8 || i == 9 || i == 10 || i == 12
  | 1 => i == 6 || i == 7
  | 2 => true
  | 3 => true
  | 4 => true
  | 5 => true
  | 6 => true
  | 7 => true
  | 8 => true
  | 9 => true
  | 10 => true
  | 11 => true
  | 12 => true
  | 13 => true
  | 14 => true
  | 15 => true
  | 16 => true
  | 17 => true
  | 18 => true
  | 19 => true
  | 20 => true
  | 21 => true
  | 22 => true
  | 23 => true
  | 24 => true
  | 35 => true
  | 36 => true
  | 37 => true
  | 38 => true
  | 39 => true
  | 40 => true
  | 41 => true
  | 42 => true
  | 43 => true
  | 44 => true
  | 45 => true
  | 46 => true
  | 52 => i == 6 || i == 8 || i == 9 || i == 10
  | 54 => true
  | 55 => true
  | _ => false
theorem pC_57 (n i : Nat) : pC (57 + n) i = false := by
  unfold pC
  split <;> first | omega | rfl
theorem frC_FJ7_fill_53178_k26_5 {h0 : ph_H}  : ∀ (q : Nat) (y0 : Int32) (y1 : Int32) (y2 : Int32) (h : ph_H), EQ pC h0 h → EQ pC h0 (FJ7_fill_53178_k26_5  q y0 y1 y2 h) := by
  intro q
  induction q with
  | zero =>
    intro y0 y1 y2 h e
    exact e
  | succ q ih =>
    intro y0 y1 y2 h e
    exact (EQ_if e (ih _ _ _ _ (EQ_s rfl e)))
theorem frC_FJ7_fill_53178_k26 {h0 : ph_H} (a1 : Int32) (h : ph_H) (e : EQ pC h0 h) : EQ pC h0 (FJ7_fill_53178_k26 a1 h) := (frC_FJ7_fill_53178_k26_5   _ _ _ _ _ e)
theorem frC_FJ7_fill_53178_k27_5 {h0 : ph_H}  : ∀ (q : Nat) (y0 : Int32) (y1 : Int32) (y2 : Int32) (h : ph_H), EQ pC h0 h → EQ pC h0 (FJ7_fill_53178_k27_5  q y0 y1 y2 h) := by
  intro q
  induction q with
  | zero =>
    intro y0 y1 y2 h e
    exact e
  | succ q ih =>
    intro y0 y1 y2 h e
    exact (EQ_if e (ih _ _ _ _ (EQ_s rfl e)))
theorem frC_FJ7_fill_53178_k27 {h0 : ph_H} (a1 : Int32) (h : ph_H) (e : EQ pC h0 h) : EQ pC h0 (FJ7_fill_53178_k27 a1 h) := (frC_FJ7_fill_53178_k27_5   _ _ _ _ _ e)
theorem frC_FJ7_fill_53178_k28_5 {h0 : ph_H}  : ∀ (q : Nat) (y0 : Int32) (y1 : Int32) (y2 : Int32) (h : ph_H), EQ pC h0 h → EQ pC h0 (FJ7_fill_53178_k28_5  q y0 y1 y2 h) := by
  intro q
  induction q with
  | zero =>
    intro y0 y1 y2 h e
    exact e
  | succ q ih =>
    intro y0 y1 y2 h e
    exact (EQ_if e (ih _ _ _ _ (EQ_s rfl e)))
theorem frC_FJ7_fill_53178_k28 {h0 : ph_H} (a1 : Int32) (h : ph_H) (e : EQ pC h0 h) : EQ pC h0 (FJ7_fill_53178_k28 a1 h) := (frC_FJ7_fill_53178_k28_5   _ _ _ _ _ e)
theorem frC_FJ7_fill_53178_k29_5 {h0 : ph_H}  : ∀ (q : Nat) (y0 : Int32) (y1 : Int32) (y2 : Int32) (h : ph_H), EQ pC h0 h → EQ pC h0 (FJ7_fill_53178_k29_5  q y0 y1 y2 h) := by
  intro q
  induction q with
  | zero =>
    intro y0 y1 y2 h e
    exact e
  | succ q ih =>
    intro y0 y1 y2 h e
    exact (EQ_if e (ih _ _ _ _ (EQ_s rfl e)))
theorem frC_FJ7_fill_53178_k29 {h0 : ph_H} (a1 : Int32) (h : ph_H) (e : EQ pC h0 h) : EQ pC h0 (FJ7_fill_53178_k29 a1 h) := (frC_FJ7_fill_53178_k29_5   _ _ _ _ _ e)
theorem frC_FJ7_fill_53178_k49_5 {h0 : ph_H}  : ∀ (q : Nat) (y0 : Int32) (y1 : Int32) (y2 : Int32) (h : ph_H), EQ pC h0 h → EQ pC h0 (FJ7_fill_53178_k49_5  q y0 y1 y2 h) := by
  intro q
  induction q with
  | zero =>
    intro y0 y1 y2 h e
    exact e
  | succ q ih =>
    intro y0 y1 y2 h e
    exact (EQ_if e (ih _ _ _ _ (EQ_s rfl e)))
theorem frC_FJ7_fill_53178_k49 {h0 : ph_H} (a1 : Int32) (h : ph_H) (e : EQ pC h0 h) : EQ pC h0 (FJ7_fill_53178_k49 a1 h) := (frC_FJ7_fill_53178_k49_5   _ _ _ _ _ e)
theorem frC_FJ7_fill_53178_k50_5 {h0 : ph_H}  : ∀ (q : Nat) (y0 : Int32) (y1 : Int32) (y2 : Int32) (h : ph_H), EQ pC h0 h → EQ pC h0 (FJ7_fill_53178_k50_5  q y0 y1 y2 h) := by
  intro q
  induction q with
  | zero =>
    intro y0 y1 y2 h e
    exact e
  | succ q ih =>
    intro y0 y1 y2 h e
    exact (EQ_if e (ih _ _ _ _ (EQ_s rfl e)))
theorem frC_FJ7_fill_53178_k50 {h0 : ph_H} (a1 : Int32) (h : ph_H) (e : EQ pC h0 h) : EQ pC h0 (FJ7_fill_53178_k50 a1 h) := (frC_FJ7_fill_53178_k50_5   _ _ _ _ _ e)
theorem frC_FX4_join_k49k49_3 {h0 : ph_H}  : ∀ (q : Nat) (y0 : Int32) (y1 : Int32) (y2 : Int32) (h : ph_H), EQ pC h0 h → EQ pC h0 (FX4_join_k49k49_3  q y0 y1 y2 h) := by
  intro q
  induction q with
  | zero =>
    intro y0 y1 y2 h e
    exact e
  | succ q ih =>
    intro y0 y1 y2 h e
    exact (EQ_if e (ih _ _ _ _ (EQ_s rfl e)))
theorem frC_FX4_join_k49k49 {h0 : ph_H} (a1 : Int32) (a3 : Int32) (h : ph_H) (e : EQ pC h0 h) : EQ pC h0 (FX4_join_k49k49 a1 a3 h) := (frC_FX4_join_k49k49_3   _ _ _ _ _ e)
theorem frC_FX4_join_k49k50_3 {h0 : ph_H}  : ∀ (q : Nat) (y0 : Int32) (y1 : Int32) (y2 : Int32) (h : ph_H), EQ pC h0 h → EQ pC h0 (FX4_join_k49k50_3  q y0 y1 y2 h) := by
  intro q
  induction q with
  | zero =>
    intro y0 y1 y2 h e
    exact e
  | succ q ih =>
    intro y0 y1 y2 h e
    exact (EQ_if e (ih _ _ _ _ (EQ_s rfl e)))
theorem frC_FX4_join_k49k50 {h0 : ph_H} (a1 : Int32) (a3 : Int32) (h : ph_H) (e : EQ pC h0 h) : EQ pC h0 (FX4_join_k49k50 a1 a3 h) := (frC_FX4_join_k49k50_3   _ _ _ _ _ e)
theorem frC_FX4_join_k50k49_3 {h0 : ph_H}  : ∀ (q : Nat) (y0 : Int32) (y1 : Int32) (y2 : Int32) (h : ph_H), EQ pC h0 h → EQ pC h0 (FX4_join_k50k49_3  q y0 y1 y2 h) := by
  intro q
  induction q with
  | zero =>
    intro y0 y1 y2 h e
    exact e
  | succ q ih =>
    intro y0 y1 y2 h e
    exact (EQ_if e (ih _ _ _ _ (EQ_s rfl e)))
theorem frC_FX4_join_k50k49 {h0 : ph_H} (a1 : Int32) (a3 : Int32) (h : ph_H) (e : EQ pC h0 h) : EQ pC h0 (FX4_join_k50k49 a1 a3 h) := (frC_FX4_join_k50k49_3   _ _ _ _ _ e)
theorem frC_FX4_learn_125 {h0 : ph_H} (x1 : Int32) (x2 : Int32) (h : ph_H) (e : EQ pC h0 h) : EQ pC h0 (FX4_learn_125 x1 x2 h) := (EQ_c (fun _ => rfl) e)
theorem frC_FX4_learn_67 {h0 : ph_H} (x1 : Int32) (x2 : Int32) (h : ph_H) (e : EQ pC h0 h) : EQ pC h0 (FX4_learn_67 x1 x2 h) := (frC_FX4_learn_125 _ _  _ e)
theorem frC_FX4_learn_96 {h0 : ph_H} (x1 : Int32) (x2 : Int32) (h : ph_H) (e : EQ pC h0 h) : EQ pC h0 (FX4_learn_96 x1 x2 h) := (frC_FX4_learn_125 _ _  _ e)
theorem frC_FX4_learn {h0 : ph_H} (a0 : Int32) (h : ph_H) (e : EQ pC h0 h) : EQ pC h0 (FX4_learn a0 h) := (EQ_if (frC_FX4_learn_67 _ _  _ (frC_FX4_join_k50k49 _ _  _ (EQ_s rfl e))) (EQ_if (frC_FX4_learn_96 _ _  _ (frC_FX4_join_k49k50 _ _  _ (EQ_s rfl e))) (EQ_if (frC_FX4_learn_125 _ _  _ (frC_FX4_join_k49k49 _ _  _ (EQ_s rfl e))) (frC_FX4_learn_125 _ _  _ (EQ_s rfl e)))))
theorem frC_FX4_prepare_47 {h0 : ph_H} (L31 : Int32 → ph_H → ph_H) (x1 : Int32) (hL31 : ∀ (y0 : Int32) (h : ph_H), EQ pC h0 h → EQ pC h0 (L31 y0 h)) (h : ph_H) (e : EQ pC h0 h) : EQ pC h0 (FX4_prepare_47 L31 x1 h) := (hL31 _ _ (EQ_s rfl (EQ_s rfl e)))
theorem frC_FX4_prepare_31 {h0 : ph_H}  : ∀ (q : Nat) (y0 : Int32) (h : ph_H), EQ pC h0 h → EQ pC h0 (FX4_prepare_31  q y0 h) := by
  intro q
  induction q with
  | zero =>
    intro y0 h e
    exact e
  | succ q ih =>
    intro y0 h e
    exact (EQ_if (EQ_s rfl e) (frC_FX4_prepare_47 _ _ ih _ (frC_FX4_learn _  _ e)))
theorem frC_FX4_prepare_24 {h0 : ph_H}  (h : ph_H) (e : EQ pC h0 h) : EQ pC h0 (FX4_prepare_24 h) := (frC_FX4_prepare_31   _ _ _ (EQ_s rfl e))
theorem frC_FX4_prepare_16 {h0 : ph_H}  (h : ph_H) (e : EQ pC h0 h) : EQ pC h0 (FX4_prepare_16 h) := (frC_FX4_prepare_24   _ (frC_FJ7_fill_53178_k50 _  _ e))
theorem frC_FX4_prepare {h0 : ph_H}  (h : ph_H) (e : EQ pC h0 h) : EQ pC h0 (FX4_prepare h) := (EQ_if (frC_FX4_prepare_16   _ (frC_FJ7_fill_53178_k49 _  _ e)) e)
theorem frC_FX11_ahead_40 {h0 : ph_H} (x1 : Int32) (x2 : Int32) (h : ph_H) (e : EQ pC h0 h) : EQ pC h0 (FX11_ahead_40 x1 x2 h).2 := (EQ2_if e e)
theorem frC_FX11_ahead {h0 : ph_H} (a0 : Int32) (a1 : Int32) (h : ph_H) (e : EQ pC h0 h) : EQ pC h0 (FX11_ahead a0 a1 h).2 := (EQ2_if e (EQ2_if e (EQ2_if e (EQ2_if (frC_FX11_ahead_40 _ _  _ (frC_FX4_prepare   _ e)) e))))
theorem frC_FX11_race_28 {h0 : ph_H} (x1 : Int32) (x2 : Int32) (h : ph_H) (e : EQ pC h0 h) : EQ pC h0 (FX11_race_28 x1 x2 h).2 := (EQ2_if e (EQ2_if e (EQ2_if (EQ2_if e (EQ2_if e e)) e)))
theorem frC_FX11_race {h0 : ph_H} (a0 : Int32) (a1 : Int32) (h : ph_H) (e : EQ pC h0 h) : EQ pC h0 (FX11_race a0 a1 h).2 := (EQ2_if e (EQ2_if e (EQ2_if (frC_FX11_race_28 _ _  _ (frC_FX4_prepare   _ e)) e)))
theorem frC_FX3_hold_oc2 {h0 : ph_H} (a0 : Int32) (a1 : Int32) (a2 : Int32) (h : ph_H) (e : EQ pC h0 h) : EQ pC h0 (FX3_hold_oc2 a0 a1 a2 h).2 := (EQ_s rfl (EQ_s rfl e))
theorem frC_FX3_getCell_oc2 {h0 : ph_H} (a0 : Int32) (a1 : Int32) (h : ph_H) (e : EQ pC h0 h) : EQ pC h0 (FX3_getCell_oc2 a0 a1 h).2 := (frC_FX3_hold_oc2 _ _ _  _ (EQ_s rfl e))
theorem frC_FX3_goTo_oc2 {h0 : ph_H} (a0 : Int32) (h : ph_H) (e : EQ pC h0 h) : EQ pC h0 (FX3_goTo_oc2 a0 h).2 := (EQ_s rfl e)
theorem frC_FX3_goUnless_oc2_25 {h0 : ph_H} (s0 : Int32) (h : ph_H) (e : EQ pC h0 h) : EQ pC h0 (FX3_goUnless_oc2_25 s0 h).2 := e
theorem frC_FX3_goUnless_oc2 {h0 : ph_H} (a0 : Int32) (a1 : Int32) (h : ph_H) (e : EQ pC h0 h) : EQ pC h0 (FX3_goUnless_oc2 a0 a1 h).2 := (EQ2_if (EQ2_if (frC_FX3_goUnless_oc2_25 _  _ (frC_FX3_goTo_oc2 _  _ e)) e) e)
theorem frC_FX3_free_oc2 {h0 : ph_H} (a0 : Int32) (h : ph_H) (e : EQ pC h0 h) : EQ pC h0 (FX3_free_oc2 a0 h).2 := (EQ_s rfl (EQ_s rfl (EQ_s rfl e)))
theorem frC_FX3_leaveLock_oc2 {h0 : ph_H} (a0 : Int32) (a1 : Int32) (h : ph_H) (e : EQ pC h0 h) : EQ pC h0 (FX3_leaveLock_oc2 a0 a1 h).2 := (EQ2_if (EQ2_if (frC_FX3_free_oc2 _  _ e) e) e)
theorem frC_FX3_lieDown_oc2 {h0 : ph_H} (a0 : Int32) (a1 : Int32) (h : ph_H) (e : EQ pC h0 h) : EQ pC h0 (FX3_lieDown_oc2 a0 a1 h).2 := (EQ2_if (EQ2_if (frC_FX3_free_oc2 _  _ (EQ_s rfl (EQ_s rfl (EQ_s rfl e)))) e) e)
theorem frC_FX3_makeThing_oc2 {h0 : ph_H} (a0 : Int32) (a1 : Int32) (a2 : Int32) (h : ph_H) (e : EQ pC h0 h) : EQ pC h0 (FX3_makeThing_oc2 a0 a1 a2 h).2 := (EQ_s rfl (EQ_s rfl (EQ_s rfl (EQ_s rfl (EQ_s rfl (EQ_s rfl e))))))
theorem frC_FX3_makeLock_oc2_22 {h0 : ph_H} (s0 : Int32) (s1 : Int32) (h : ph_H) (e : EQ pC h0 h) : EQ pC h0 (FX3_makeLock_oc2_22 s0 s1 h).2 := (frC_FX3_makeThing_oc2 _ _ _  _ e)
theorem frC_FX3_makeLock_oc2 {h0 : ph_H} (a0 : Int32) (a1 : Int32) (h : ph_H) (e : EQ pC h0 h) : EQ pC h0 (FX3_makeLock_oc2 a0 a1 h).2 := (EQ2_if (EQ2_if (frC_FX3_makeLock_oc2_22 _ _  _ e) (frC_FX3_makeLock_oc2_22 _ _  _ e)) e)
theorem frC_FX3_makeRow_oc2_44 {h0 : ph_H}  : ∀ (q : Nat) (y0 : Int32) (y1 : Int32) (y2 : Int32) (h : ph_H), EQ pC h0 h → EQ pC h0 (FX3_makeRow_oc2_44  q y0 y1 y2 h).2 := by
  intro q
  induction q with
  | zero =>
    intro y0 y1 y2 h e
    exact e
  | succ q ih =>
    intro y0 y1 y2 h e
    exact (EQ2_if (frC_FX3_makeThing_oc2 _ _ _  _ e) (ih _ _ _ _ (EQ_s rfl e)))
theorem frC_FX3_makeRow_oc2 {h0 : ph_H} (a0 : Int32) (a1 : Int32) (h : ph_H) (e : EQ pC h0 h) : EQ pC h0 (FX3_makeRow_oc2 a0 a1 h).2 := (EQ2_if (EQ2_if (EQ2_if e (EQ2_if (frC_FX3_makeRow_oc2_44   _ _ _ _ _ e) e)) e) e)
theorem frC_FX3_putCell_oc2 {h0 : ph_H} (a0 : Int32) (a1 : Int32) (h : ph_H) (e : EQ pC h0 h) : EQ pC h0 (FX3_putCell_oc2 a0 a1 h).2 := (frC_FX3_hold_oc2 _ _ _  _ (EQ_s rfl e))
theorem frC_FX3_readRow_oc2 {h0 : ph_H} (a0 : Int32) (a1 : Int32) (a2 : Int32) (h : ph_H) (e : EQ pC h0 h) : EQ pC h0 (FX3_readRow_oc2 a0 a1 a2 h).2 := (EQ2_if (EQ2_if (EQ2_if e (frC_FX3_hold_oc2 _ _ _  _ (EQ_s rfl e))) e) e)
theorem frC_FX3_reckon_oc2_58 {h0 : ph_H} (x2 : Int32) (s0 : Int32) (h : ph_H) (e : EQ pC h0 h) : EQ pC h0 (FX3_reckon_oc2_58 x2 s0 h).2 := (frC_FX3_hold_oc2 _ _ _  _ e)
theorem frC_FX3_reckon_oc2 {h0 : ph_H} (a0 : Int32) (a1 : Int32) (a2 : Int32) (h : ph_H) (e : EQ pC h0 h) : EQ pC h0 (FX3_reckon_oc2 a0 a1 a2 h).2 := (EQ2_if e (EQ2_if (frC_FX3_reckon_oc2_58 _ _  _ e) (EQ2_if (frC_FX3_reckon_oc2_58 _ _  _ e) (frC_FX3_reckon_oc2_58 _ _  _ e))))
theorem frC_FX3_startThread_oc2 {h0 : ph_H} (a0 : Int32) (h : ph_H) (e : EQ pC h0 h) : EQ pC h0 (FX3_startThread_oc2 a0 h).2 := (EQ2_if (EQ_s rfl (EQ_s rfl (EQ_s rfl e))) e)
theorem frC_FX3_takeInput_oc2 {h0 : ph_H} (a0 : Int32) (h : ph_H) (e : EQ pC h0 h) : EQ pC h0 (FX3_takeInput_oc2 a0 h).2 := (EQ2_if e (EQ2_if (frC_FX3_hold_oc2 _ _ _  _ (EQ_s rfl e)) e))
theorem frC_FX3_own_oc2 {h0 : ph_H} (a0 : Int32) (a1 : Int32) (h : ph_H) (e : EQ pC h0 h) : EQ pC h0 (FX3_own_oc2 a0 a1 h).2 := (EQ_s rfl (EQ_s rfl (EQ_s rfl e)))
theorem frC_FX3_takeLock_oc2 {h0 : ph_H} (a0 : Int32) (a1 : Int32) (h : ph_H) (e : EQ pC h0 h) : EQ pC h0 (FX3_takeLock_oc2 a0 a1 h).2 := (EQ2_if (EQ2_if e (frC_FX3_own_oc2 _ _  _ e)) e)
theorem frC_FX3_wakeSleepers_oc2_64 {h0 : ph_H} (L28 : Int32 → Int32 → ph_H → Int32 × ph_H) (x3 : Int32) (x4 : Int32) (hL28 : ∀ (y0 : Int32) (y1 : Int32) (h : ph_H), EQ pC h0 h → EQ pC h0 (L28 y0 y1 h).2) (h : ph_H) (e : EQ pC h0 h) : EQ pC h0 (FX3_wakeSleepers_oc2_64 L28 x3 x4 h).2 := (hL28 _ _ _ e)
theorem frC_FX3_wakeSleepers_oc2_28 {h0 : ph_H}  : ∀ (q : Nat) (y0 : Int32) (y1 : Int32) (h : ph_H), EQ pC h0 h → EQ pC h0 (FX3_wakeSleepers_oc2_28  q y0 y1 h).2 := by
  intro q
  induction q with
  | zero =>
    intro y0 y1 h e
    exact e
  | succ q ih =>
    intro y0 y1 h e
    exact (EQ2_if (EQ_s rfl e) (EQ2_if (EQ2_if (frC_FX3_wakeSleepers_oc2_64 _ _ _ ih _ (EQ_s rfl e)) (frC_FX3_wakeSleepers_oc2_64 _ _ _ ih _ e)) (frC_FX3_wakeSleepers_oc2_64 _ _ _ ih _ e)))
theorem frC_FX3_wakeSleepers_oc2 {h0 : ph_H} (a0 : Int32) (a1 : Int32) (h : ph_H) (e : EQ pC h0 h) : EQ pC h0 (FX3_wakeSleepers_oc2 a0 a1 h).2 := (EQ2_if (EQ2_if (frC_FX3_wakeSleepers_oc2_28   _ _ _ _ e) e) e)
theorem frC_FX3_writeRow_oc2 {h0 : ph_H} (a0 : Int32) (a1 : Int32) (a2 : Int32) (h : ph_H) (e : EQ pC h0 h) : EQ pC h0 (FX3_writeRow_oc2 a0 a1 a2 h).2 := (EQ2_if (EQ2_if e (EQ2_if e (EQ_s rfl (EQ_s rfl e)))) e)
theorem frC_FX3_perform_oc2_288 {h0 : ph_H} (s0 : Int32) (s1 : Int32) (h : ph_H) (e : EQ pC h0 h) : EQ pC h0 (FX3_perform_oc2_288 s0 s1 h).2 := (frC_FX3_makeLock_oc2 _ _  _ e)
theorem frC_FX3_perform_oc2 {h0 : ph_H} (a0 : Int32) (h : ph_H) (e : EQ pC h0 h) : EQ pC h0 (FX3_perform_oc2 a0 h).2 := (EQ2_if (frC_FX3_hold_oc2 _ _ _  _ e) (EQ2_if (frC_FX3_getCell_oc2 _ _  _ e) (EQ2_if (frC_FX3_putCell_oc2 _ _  _ e) (EQ2_if (frC_FX3_reckon_oc2 _ _ _  _ e) (EQ2_if (frC_FX3_reckon_oc2 _ _ _  _ e) (EQ2_if (frC_FX3_reckon_oc2 _ _ _  _ e) (EQ2_if (frC_FX3_goTo_oc2 _  _ e) (EQ2_if (frC_FX3_goUnless_oc2 _ _  _ e) (EQ2_if (frC_FX3_makeRow_oc2 _ _  _ e) (EQ2_if (frC_FX3_readRow_oc2 _ _ _  _ e) (EQ2_if (frC_FX3_writeRow_oc2 _ _ _  _ e) (EQ2_if (EQ2_if (frC_FX3_perform_oc2_288 _ _  _ e) (frC_FX3_perform_oc2_288 _ _  _ e)) (EQ2_if (frC_FX3_takeLock_oc2 _ _  _ e) (EQ2_if (frC_FX3_leaveLock_oc2 _ _  _ e) (EQ2_if (frC_FX3_lieDown_oc2 _ _  _ e) (EQ2_if (frC_FX3_wakeSleepers_oc2 _ _  _ e) (EQ2_if (frC_FX3_takeInput_oc2 _  _ e) (EQ2_if (frC_FX3_startThread_oc2 _  _ e) (EQ2_if e (frC_FX3_goTo_oc2 _  _ e))))))))))))))))))))
theorem frC_FX3_rise_oc2 {h0 : ph_H} (a0 : Int32) (h : ph_H) (e : EQ pC h0 h) : EQ pC h0 (FX3_rise_oc2 a0 h).2 := (frC_FX3_own_oc2 _ _  _ (EQ_s rfl e))
theorem frC_FX3_go_oc2_67 {h0 : ph_H} (x1 : Int32) (s0 : Int32) (h : ph_H) (e : EQ pC h0 h) : EQ pC h0 (FX3_go_oc2_67 x1 s0 h).2 := (EQ2_if (EQ_s rfl e) e)
theorem frC_FX3_go_oc2_59 {h0 : ph_H} (x1 : Int32) (s0 : Int32) (h : ph_H) (e : EQ pC h0 h) : EQ pC h0 (FX3_go_oc2_59 x1 s0 h).2 := (frC_FX3_go_oc2_67 _ _  _ e)
theorem frC_FX3_go_oc2 {h0 : ph_H} (a0 : Int32) (h : ph_H) (e : EQ pC h0 h) : EQ pC h0 (FX3_go_oc2 a0 h).2 := (EQ2_if e (EQ2_if (frC_FX3_go_oc2_59 _ _  _ (frC_FX3_rise_oc2 _  _ (EQ_s rfl (EQ_s rfl (EQ_s rfl (EQ_s rfl (EQ_s rfl e))))))) (frC_FX3_go_oc2_67 _ _  _ (frC_FX3_perform_oc2 _  _ (EQ_s rfl (EQ_s rfl (EQ_s rfl (EQ_s rfl (EQ_s rfl e)))))))))
theorem frC_FX11_replay_oc2_33 {h0 : ph_H} (L3 : Int32 → Int32 → ph_H → ph_H) (x3 : Int32) (x4 : Int32) (s0 : Int32) (hL3 : ∀ (y0 : Int32) (y1 : Int32) (h : ph_H), EQ pC h0 h → EQ pC h0 (L3 y0 y1 h)) (h : ph_H) (e : EQ pC h0 h) : EQ pC h0 (FX11_replay_oc2_33 L3 x3 x4 s0 h) := (hL3 _ _ _ e)
theorem frC_FX11_replay_oc2_3 {h0 : ph_H}  : ∀ (q : Nat) (y0 : Int32) (y1 : Int32) (h : ph_H), EQ pC h0 h → EQ pC h0 (FX11_replay_oc2_3  q y0 y1 h) := by
  intro q
  induction q with
  | zero =>
    intro y0 y1 h e
    exact e
  | succ q ih =>
    intro y0 y1 h e
    exact (EQ_if e (EQ_if e (frC_FX11_replay_oc2_33 _ _ _ _ ih _ (frC_FX3_go_oc2 _  _ e))))
theorem frC_FX11_replay_oc2 {h0 : ph_H} (a1 : Int32) (a2 : Int32) (h : ph_H) (e : EQ pC h0 h) : EQ pC h0 (FX11_replay_oc2 a1 a2 h) := (frC_FX11_replay_oc2_3   _ _ _ _ e)
theorem frC_FX3_begin_ot_52 {h0 : ph_H} (x2 : Int32) (h : ph_H) (e : EQ pC h0 h) : EQ pC h0 (FX3_begin_ot_52 x2 h) := (EQ_s rfl (EQ_s rfl (EQ_s rfl (EQ_s rfl e))))
theorem frC_FX3_begin_ot_44 {h0 : ph_H} (x2 : Int32) (h : ph_H) (e : EQ pC h0 h) : EQ pC h0 (FX3_begin_ot_44 x2 h) := (frC_FX3_begin_ot_52 _  _ (frC_FJ7_fill_53178_k29 _  _ e))
theorem frC_FX3_begin_ot_21 {h0 : ph_H} (x2 : Int32) (h : ph_H) (e : EQ pC h0 h) : EQ pC h0 (FX3_begin_ot_21 x2 h) := (frC_FX3_begin_ot_44 _  _ (frC_FJ7_fill_53178_k28 _  _ (EQ_c (fun _ => rfl) e)))
theorem frC_FX3_begin_ot_13 {h0 : ph_H} (x2 : Int32) (h : ph_H) (e : EQ pC h0 h) : EQ pC h0 (FX3_begin_ot_13 x2 h) := (frC_FX3_begin_ot_21 _  _ (frC_FJ7_fill_53178_k27 _  _ e))
theorem frC_FX3_begin_ot {h0 : ph_H} (a1 : Int32) (h : ph_H) (e : EQ pC h0 h) : EQ pC h0 (FX3_begin_ot a1 h) := (frC_FX3_begin_ot_13 _  _ (frC_FJ7_fill_53178_k26 _  _ e))
def pP (k i : Nat) : Bool := match k with
  | 0 => i == 8 || i == 9 || i == 10
  | 1 => i == 6 || i == 7
  | 2 => true
  | 3 => true
  | 4 => true
  | 5 => true
  | 6 => true
  | 7 => true
  | 8 => true
  | 9 => true
  | 10 => true
  | 11 => true
  | 12 => true
  | 13 => true
  | 14 => true
  | 15 => true
  | 16 => true
  | 17 => true
  | 18 => true
  | 19 => true
  | 20 => true
  | 21 => true
  | 22 => true
  | 23 => true
  | 24 => true
  | 35 => true
  | 36 => true
  | 37 => true
  | 38 => true
  | 39 => true
  | 40 => true
  | 41 => true
  | 42 => true
  | 43 => true
  | 44 => true
  | 45 => true
  | 46 => true
  | 52 => i == 6 || i == 8 || i == 9 || i == 10
  | 54 => true
  | 55 => true
  | _ => false
theorem pP_57 (n i : Nat) : pP (57 + n) i = false := by
  unfold pP
  split <;> first | omega | rfl
theorem frP_FX3_hold_oc1 {h0 : ph_H} (a0 : Int32) (a1 : Int32) (a2 : Int32) (h : ph_H) (e : EQ pP h0 h) : EQ pP h0 (FX3_hold_oc1 a0 a1 a2 h).2 := (EQ_s rfl (EQ_s rfl e))
theorem frP_FX3_getCell_oc1 {h0 : ph_H} (a0 : Int32) (a1 : Int32) (h : ph_H) (e : EQ pP h0 h) : EQ pP h0 (FX3_getCell_oc1 a0 a1 h).2 := (frP_FX3_hold_oc1 _ _ _  _ (EQ_s rfl e))
theorem frP_FX3_goTo_oc1 {h0 : ph_H} (a0 : Int32) (h : ph_H) (e : EQ pP h0 h) : EQ pP h0 (FX3_goTo_oc1 a0 h).2 := (EQ_s rfl e)
theorem frP_FX3_goUnless_oc1_25 {h0 : ph_H} (s0 : Int32) (h : ph_H) (e : EQ pP h0 h) : EQ pP h0 (FX3_goUnless_oc1_25 s0 h).2 := e
theorem frP_FX3_goUnless_oc1 {h0 : ph_H} (a0 : Int32) (a1 : Int32) (h : ph_H) (e : EQ pP h0 h) : EQ pP h0 (FX3_goUnless_oc1 a0 a1 h).2 := (EQ2_if (EQ2_if (frP_FX3_goUnless_oc1_25 _  _ (frP_FX3_goTo_oc1 _  _ e)) e) e)
theorem frP_FX3_free_oc1 {h0 : ph_H} (a0 : Int32) (h : ph_H) (e : EQ pP h0 h) : EQ pP h0 (FX3_free_oc1 a0 h).2 := (EQ_s rfl (EQ_s rfl (EQ_s rfl e)))
theorem frP_FX3_leaveLock_oc1 {h0 : ph_H} (a0 : Int32) (a1 : Int32) (h : ph_H) (e : EQ pP h0 h) : EQ pP h0 (FX3_leaveLock_oc1 a0 a1 h).2 := (EQ2_if (EQ2_if (frP_FX3_free_oc1 _  _ e) e) e)
theorem frP_FX3_lieDown_oc1 {h0 : ph_H} (a0 : Int32) (a1 : Int32) (h : ph_H) (e : EQ pP h0 h) : EQ pP h0 (FX3_lieDown_oc1 a0 a1 h).2 := (EQ2_if (EQ2_if (frP_FX3_free_oc1 _  _ (EQ_s rfl (EQ_s rfl (EQ_s rfl e)))) e) e)
theorem frP_FX3_makeThing_oc1 {h0 : ph_H} (a0 : Int32) (a1 : Int32) (a2 : Int32) (h : ph_H) (e : EQ pP h0 h) : EQ pP h0 (FX3_makeThing_oc1 a0 a1 a2 h).2 := (EQ_s rfl (EQ_s rfl (EQ_s rfl (EQ_s rfl (EQ_s rfl (EQ_s rfl e))))))
theorem frP_FX3_makeLock_oc1_22 {h0 : ph_H} (s0 : Int32) (s1 : Int32) (h : ph_H) (e : EQ pP h0 h) : EQ pP h0 (FX3_makeLock_oc1_22 s0 s1 h).2 := (frP_FX3_makeThing_oc1 _ _ _  _ e)
theorem frP_FX3_makeLock_oc1 {h0 : ph_H} (a0 : Int32) (a1 : Int32) (h : ph_H) (e : EQ pP h0 h) : EQ pP h0 (FX3_makeLock_oc1 a0 a1 h).2 := (EQ2_if (EQ2_if (frP_FX3_makeLock_oc1_22 _ _  _ e) (frP_FX3_makeLock_oc1_22 _ _  _ e)) e)
theorem frP_FX3_makeRow_oc1_44 {h0 : ph_H}  : ∀ (q : Nat) (y0 : Int32) (y1 : Int32) (y2 : Int32) (h : ph_H), EQ pP h0 h → EQ pP h0 (FX3_makeRow_oc1_44  q y0 y1 y2 h).2 := by
  intro q
  induction q with
  | zero =>
    intro y0 y1 y2 h e
    exact e
  | succ q ih =>
    intro y0 y1 y2 h e
    exact (EQ2_if (frP_FX3_makeThing_oc1 _ _ _  _ e) (ih _ _ _ _ (EQ_s rfl e)))
theorem frP_FX3_makeRow_oc1 {h0 : ph_H} (a0 : Int32) (a1 : Int32) (h : ph_H) (e : EQ pP h0 h) : EQ pP h0 (FX3_makeRow_oc1 a0 a1 h).2 := (EQ2_if (EQ2_if (EQ2_if e (EQ2_if (frP_FX3_makeRow_oc1_44   _ _ _ _ _ e) e)) e) e)
theorem frP_FX3_putCell_oc1 {h0 : ph_H} (a0 : Int32) (a1 : Int32) (h : ph_H) (e : EQ pP h0 h) : EQ pP h0 (FX3_putCell_oc1 a0 a1 h).2 := (frP_FX3_hold_oc1 _ _ _  _ (EQ_s rfl e))
theorem frP_FX3_readRow_oc1 {h0 : ph_H} (a0 : Int32) (a1 : Int32) (a2 : Int32) (h : ph_H) (e : EQ pP h0 h) : EQ pP h0 (FX3_readRow_oc1 a0 a1 a2 h).2 := (EQ2_if (EQ2_if (EQ2_if e (frP_FX3_hold_oc1 _ _ _  _ (EQ_s rfl e))) e) e)
theorem frP_FX3_reckon_oc1_58 {h0 : ph_H} (x2 : Int32) (s0 : Int32) (h : ph_H) (e : EQ pP h0 h) : EQ pP h0 (FX3_reckon_oc1_58 x2 s0 h).2 := (frP_FX3_hold_oc1 _ _ _  _ e)
theorem frP_FX3_reckon_oc1 {h0 : ph_H} (a0 : Int32) (a1 : Int32) (a2 : Int32) (h : ph_H) (e : EQ pP h0 h) : EQ pP h0 (FX3_reckon_oc1 a0 a1 a2 h).2 := (EQ2_if e (EQ2_if (frP_FX3_reckon_oc1_58 _ _  _ e) (EQ2_if (frP_FX3_reckon_oc1_58 _ _  _ e) (frP_FX3_reckon_oc1_58 _ _  _ e))))
theorem frP_FX3_startThread_oc1 {h0 : ph_H} (a0 : Int32) (h : ph_H) (e : EQ pP h0 h) : EQ pP h0 (FX3_startThread_oc1 a0 h).2 := (EQ2_if (EQ_s rfl (EQ_s rfl (EQ_s rfl e))) e)
theorem frP_FX3_takeInput_oc1 {h0 : ph_H} (a0 : Int32) (h : ph_H) (e : EQ pP h0 h) : EQ pP h0 (FX3_takeInput_oc1 a0 h).2 := (EQ2_if e (EQ2_if (frP_FX3_hold_oc1 _ _ _  _ (EQ_s rfl e)) e))
theorem frP_FX3_own_oc1 {h0 : ph_H} (a0 : Int32) (a1 : Int32) (h : ph_H) (e : EQ pP h0 h) : EQ pP h0 (FX3_own_oc1 a0 a1 h).2 := (EQ_s rfl (EQ_s rfl (EQ_s rfl e)))
theorem frP_FX3_takeLock_oc1 {h0 : ph_H} (a0 : Int32) (a1 : Int32) (h : ph_H) (e : EQ pP h0 h) : EQ pP h0 (FX3_takeLock_oc1 a0 a1 h).2 := (EQ2_if (EQ2_if e (frP_FX3_own_oc1 _ _  _ e)) e)
theorem frP_FX3_wakeSleepers_oc1_64 {h0 : ph_H} (L28 : Int32 → Int32 → ph_H → Int32 × ph_H) (x3 : Int32) (x4 : Int32) (hL28 : ∀ (y0 : Int32) (y1 : Int32) (h : ph_H), EQ pP h0 h → EQ pP h0 (L28 y0 y1 h).2) (h : ph_H) (e : EQ pP h0 h) : EQ pP h0 (FX3_wakeSleepers_oc1_64 L28 x3 x4 h).2 := (hL28 _ _ _ e)
theorem frP_FX3_wakeSleepers_oc1_28 {h0 : ph_H}  : ∀ (q : Nat) (y0 : Int32) (y1 : Int32) (h : ph_H), EQ pP h0 h → EQ pP h0 (FX3_wakeSleepers_oc1_28  q y0 y1 h).2 := by
  intro q
  induction q with
  | zero =>
    intro y0 y1 h e
    exact e
  | succ q ih =>
    intro y0 y1 h e
    exact (EQ2_if (EQ_s rfl e) (EQ2_if (EQ2_if (frP_FX3_wakeSleepers_oc1_64 _ _ _ ih _ (EQ_s rfl e)) (frP_FX3_wakeSleepers_oc1_64 _ _ _ ih _ e)) (frP_FX3_wakeSleepers_oc1_64 _ _ _ ih _ e)))
theorem frP_FX3_wakeSleepers_oc1 {h0 : ph_H} (a0 : Int32) (a1 : Int32) (h : ph_H) (e : EQ pP h0 h) : EQ pP h0 (FX3_wakeSleepers_oc1 a0 a1 h).2 := (EQ2_if (EQ2_if (frP_FX3_wakeSleepers_oc1_28   _ _ _ _ e) e) e)
theorem frP_FX3_writeRow_oc1 {h0 : ph_H} (a0 : Int32) (a1 : Int32) (a2 : Int32) (h : ph_H) (e : EQ pP h0 h) : EQ pP h0 (FX3_writeRow_oc1 a0 a1 a2 h).2 := (EQ2_if (EQ2_if e (EQ2_if e (EQ_s rfl (EQ_s rfl e)))) e)
theorem frP_FX3_perform_oc1_288 {h0 : ph_H} (s0 : Int32) (s1 : Int32) (h : ph_H) (e : EQ pP h0 h) : EQ pP h0 (FX3_perform_oc1_288 s0 s1 h).2 := (frP_FX3_makeLock_oc1 _ _  _ e)
theorem frP_FX3_perform_oc1 {h0 : ph_H} (a0 : Int32) (h : ph_H) (e : EQ pP h0 h) : EQ pP h0 (FX3_perform_oc1 a0 h).2 := (EQ2_if (frP_FX3_hold_oc1 _ _ _  _ e) (EQ2_if (frP_FX3_getCell_oc1 _ _  _ e) (EQ2_if (frP_FX3_putCell_oc1 _ _  _ e) (EQ2_if (frP_FX3_reckon_oc1 _ _ _  _ e) (EQ2_if (frP_FX3_reckon_oc1 _ _ _  _ e) (EQ2_if (frP_FX3_reckon_oc1 _ _ _  _ e) (EQ2_if (frP_FX3_goTo_oc1 _  _ e) (EQ2_if (frP_FX3_goUnless_oc1 _ _  _ e) (EQ2_if (frP_FX3_makeRow_oc1 _ _  _ e) (EQ2_if (frP_FX3_readRow_oc1 _ _ _  _ e) (EQ2_if (frP_FX3_writeRow_oc1 _ _ _  _ e) (EQ2_if (EQ2_if (frP_FX3_perform_oc1_288 _ _  _ e) (frP_FX3_perform_oc1_288 _ _  _ e)) (EQ2_if (frP_FX3_takeLock_oc1 _ _  _ e) (EQ2_if (frP_FX3_leaveLock_oc1 _ _  _ e) (EQ2_if (frP_FX3_lieDown_oc1 _ _  _ e) (EQ2_if (frP_FX3_wakeSleepers_oc1 _ _  _ e) (EQ2_if (frP_FX3_takeInput_oc1 _  _ e) (EQ2_if (frP_FX3_startThread_oc1 _  _ e) (EQ2_if e (frP_FX3_goTo_oc1 _  _ e))))))))))))))))))))
theorem frP_FX3_rise_oc1 {h0 : ph_H} (a0 : Int32) (h : ph_H) (e : EQ pP h0 h) : EQ pP h0 (FX3_rise_oc1 a0 h).2 := (frP_FX3_own_oc1 _ _  _ (EQ_s rfl e))
theorem frP_FX3_go_oc1_67 {h0 : ph_H} (x1 : Int32) (s0 : Int32) (h : ph_H) (e : EQ pP h0 h) : EQ pP h0 (FX3_go_oc1_67 x1 s0 h).2 := (EQ2_if (EQ_s rfl e) e)
theorem frP_FX3_go_oc1_59 {h0 : ph_H} (x1 : Int32) (s0 : Int32) (h : ph_H) (e : EQ pP h0 h) : EQ pP h0 (FX3_go_oc1_59 x1 s0 h).2 := (frP_FX3_go_oc1_67 _ _  _ e)
theorem frP_FX3_go_oc1 {h0 : ph_H} (a0 : Int32) (h : ph_H) (e : EQ pP h0 h) : EQ pP h0 (FX3_go_oc1 a0 h).2 := (EQ2_if e (EQ2_if (frP_FX3_go_oc1_59 _ _  _ (frP_FX3_rise_oc1 _  _ (EQ_s rfl (EQ_s rfl (EQ_s rfl (EQ_s rfl (EQ_s rfl e))))))) (frP_FX3_go_oc1_67 _ _  _ (frP_FX3_perform_oc1 _  _ (EQ_s rfl (EQ_s rfl (EQ_s rfl (EQ_s rfl (EQ_s rfl e)))))))))
theorem frP_FX11_goByRecordc1_120 {h0 : ph_H} (L37 : Int32 → Int32 → Int32 → Int32 → ph_H → Int32 × ph_H) (x1 : Int32) (x2 : Int32) (x3 : Int32) (x4 : Int32) (s0 : Int32) (hL37 : ∀ (y0 : Int32) (y1 : Int32) (y2 : Int32) (y3 : Int32) (h : ph_H), EQ pP h0 h → EQ pP h0 (L37 y0 y1 y2 y3 h).2) (h : ph_H) (e : EQ pP h0 h) : EQ pP h0 (FX11_goByRecordc1_120 L37 x1 x2 x3 x4 s0 h).2 := (EQ2_if e (EQ2_if e (EQ2_if (hL37 _ _ _ _ _ (EQ_s rfl e)) (EQ_s rfl e))))
theorem frP_FX11_goByRecordc1_106 {h0 : ph_H} (L37 : Int32 → Int32 → Int32 → Int32 → ph_H → Int32 × ph_H) (x1 : Int32) (x2 : Int32) (x3 : Int32) (x4 : Int32) (hL37 : ∀ (y0 : Int32) (y1 : Int32) (y2 : Int32) (y3 : Int32) (h : ph_H), EQ pP h0 h → EQ pP h0 (L37 y0 y1 y2 y3 h).2) (h : ph_H) (e : EQ pP h0 h) : EQ pP h0 (FX11_goByRecordc1_106 L37 x1 x2 x3 x4 h).2 := (EQ2_if (frP_FX11_goByRecordc1_120 _ _ _ _ _ _ hL37 _ (frP_FX3_go_oc1 _  _ e)) e)
theorem frP_FX11_goByRecordc1_88 {h0 : ph_H} (L37 : Int32 → Int32 → Int32 → Int32 → ph_H → Int32 × ph_H) (x1 : Int32) (x2 : Int32) (x3 : Int32) (x4 : Int32) (hL37 : ∀ (y0 : Int32) (y1 : Int32) (y2 : Int32) (y3 : Int32) (h : ph_H), EQ pP h0 h → EQ pP h0 (L37 y0 y1 y2 y3 h).2) (h : ph_H) (e : EQ pP h0 h) : EQ pP h0 (FX11_goByRecordc1_88 L37 x1 x2 x3 x4 h).2 := (EQ2_if (frP_FX11_goByRecordc1_106 _ _ _ _ _ hL37 _ e) (frP_FX11_goByRecordc1_106 _ _ _ _ _ hL37 _ e))
theorem frP_FX11_goByRecordc1_37 {h0 : ph_H}  : ∀ (q : Nat) (y0 : Int32) (y1 : Int32) (y2 : Int32) (y3 : Int32) (h : ph_H), EQ pP h0 h → EQ pP h0 (FX11_goByRecordc1_37  q y0 y1 y2 y3 h).2 := by
  intro q
  induction q with
  | zero =>
    intro y0 y1 y2 y3 h e
    exact e
  | succ q ih =>
    intro y0 y1 y2 y3 h e
    exact (EQ2_if (EQ2_if e e) (EQ2_if (frP_FX11_goByRecordc1_88 _ _ _ _ _ ih _ e) (EQ2_if (frP_FX11_goByRecordc1_88 _ _ _ _ _ ih _ e) (EQ2_if (frP_FX11_goByRecordc1_88 _ _ _ _ _ ih _ e) (frP_FX11_goByRecordc1_88 _ _ _ _ _ ih _ e)))))
theorem frP_FX11_goByRecordc1_30 {h0 : ph_H} (x1 : Int32) (x2 : Int32) (x3 : Int32) (s0 : Int32) (h : ph_H) (e : EQ pP h0 h) : EQ pP h0 (FX11_goByRecordc1_30 x1 x2 x3 s0 h).2 := (frP_FX11_goByRecordc1_37   _ _ _ _ _ _ (EQ_s rfl e))
theorem frP_FX11_goByRecordc1_29 {h0 : ph_H} (x1 : Int32) (x2 : Int32) (x3 : Int32) (h : ph_H) (e : EQ pP h0 h) : EQ pP h0 (FX11_goByRecordc1_29 x1 x2 x3 h).2 := (frP_FX11_goByRecordc1_30 _ _ _ _  _ e)
theorem frP_FX11_goByRecordc1 {h0 : ph_H} (a0 : Int32) (h : ph_H) (e : EQ pP h0 h) : EQ pP h0 (FX11_goByRecordc1 a0 h).2 := (EQ2_if (frP_FX11_goByRecordc1_29 _ _ _  _ e) (EQ2_if (frP_FX11_goByRecordc1_29 _ _ _  _ e) (frP_FX11_goByRecordc1_30 _ _ _ _  _ e)))
theorem frP_FJ7_fill_53178_k26_5 {h0 : ph_H}  : ∀ (q : Nat) (y0 : Int32) (y1 : Int32) (y2 : Int32) (h : ph_H), EQ pP h0 h → EQ pP h0 (FJ7_fill_53178_k26_5  q y0 y1 y2 h) := by
  intro q
  induction q with
  | zero =>
    intro y0 y1 y2 h e
    exact e
  | succ q ih =>
    intro y0 y1 y2 h e
    exact (EQ_if e (ih _ _ _ _ (EQ_s rfl e)))
theorem frP_FJ7_fill_53178_k26 {h0 : ph_H} (a1 : Int32) (h : ph_H) (e : EQ pP h0 h) : EQ pP h0 (FJ7_fill_53178_k26 a1 h) := (frP_FJ7_fill_53178_k26_5   _ _ _ _ _ e)
theorem frP_FJ7_fill_53178_k27_5 {h0 : ph_H}  : ∀ (q : Nat) (y0 : Int32) (y1 : Int32) (y2 : Int32) (h : ph_H), EQ pP h0 h → EQ pP h0 (FJ7_fill_53178_k27_5  q y0 y1 y2 h) := by
  intro q
  induction q with
  | zero =>
    intro y0 y1 y2 h e
    exact e
  | succ q ih =>
    intro y0 y1 y2 h e
    exact (EQ_if e (ih _ _ _ _ (EQ_s rfl e)))
theorem frP_FJ7_fill_53178_k27 {h0 : ph_H} (a1 : Int32) (h : ph_H) (e : EQ pP h0 h) : EQ pP h0 (FJ7_fill_53178_k27 a1 h) := (frP_FJ7_fill_53178_k27_5   _ _ _ _ _ e)
theorem frP_FJ7_fill_53178_k28_5 {h0 : ph_H}  : ∀ (q : Nat) (y0 : Int32) (y1 : Int32) (y2 : Int32) (h : ph_H), EQ pP h0 h → EQ pP h0 (FJ7_fill_53178_k28_5  q y0 y1 y2 h) := by
  intro q
  induction q with
  | zero =>
    intro y0 y1 y2 h e
    exact e
  | succ q ih =>
    intro y0 y1 y2 h e
    exact (EQ_if e (ih _ _ _ _ (EQ_s rfl e)))
theorem frP_FJ7_fill_53178_k28 {h0 : ph_H} (a1 : Int32) (h : ph_H) (e : EQ pP h0 h) : EQ pP h0 (FJ7_fill_53178_k28 a1 h) := (frP_FJ7_fill_53178_k28_5   _ _ _ _ _ e)
theorem frP_FJ7_fill_53178_k29_5 {h0 : ph_H}  : ∀ (q : Nat) (y0 : Int32) (y1 : Int32) (y2 : Int32) (h : ph_H), EQ pP h0 h → EQ pP h0 (FJ7_fill_53178_k29_5  q y0 y1 y2 h) := by
  intro q
  induction q with
  | zero =>
    intro y0 y1 y2 h e
    exact e
  | succ q ih =>
    intro y0 y1 y2 h e
    exact (EQ_if e (ih _ _ _ _ (EQ_s rfl e)))
theorem frP_FJ7_fill_53178_k29 {h0 : ph_H} (a1 : Int32) (h : ph_H) (e : EQ pP h0 h) : EQ pP h0 (FJ7_fill_53178_k29 a1 h) := (frP_FJ7_fill_53178_k29_5   _ _ _ _ _ e)
theorem frP_FX3_begin_on_52 {h0 : ph_H} (x2 : Int32) (h : ph_H) (e : EQ pP h0 h) : EQ pP h0 (FX3_begin_on_52 x2 h) := (EQ_s rfl (EQ_s rfl (EQ_s rfl (EQ_s rfl e))))
theorem frP_FX3_begin_on_44 {h0 : ph_H} (x2 : Int32) (h : ph_H) (e : EQ pP h0 h) : EQ pP h0 (FX3_begin_on_44 x2 h) := (frP_FX3_begin_on_52 _  _ (frP_FJ7_fill_53178_k29 _  _ e))
theorem frP_FX3_begin_on_21 {h0 : ph_H} (x2 : Int32) (h : ph_H) (e : EQ pP h0 h) : EQ pP h0 (FX3_begin_on_21 x2 h) := (frP_FX3_begin_on_44 _  _ (frP_FJ7_fill_53178_k28 _  _ (EQ_c (fun _ => rfl) e)))
theorem frP_FX3_begin_on_13 {h0 : ph_H} (x2 : Int32) (h : ph_H) (e : EQ pP h0 h) : EQ pP h0 (FX3_begin_on_13 x2 h) := (frP_FX3_begin_on_21 _  _ (frP_FJ7_fill_53178_k27 _  _ e))
theorem frP_FX3_begin_on {h0 : ph_H} (a1 : Int32) (h : ph_H) (e : EQ pP h0 h) : EQ pP h0 (FX3_begin_on a1 h) := (frP_FX3_begin_on_13 _  _ (frP_FJ7_fill_53178_k26 _  _ e))
theorem frP_FX11_play_54 {h0 : ph_H} (x1 : Int32) (h : ph_H) (e : EQ pP h0 h) : EQ pP h0 (FX11_play_54 x1 h).2 := (EQ_s rfl (frP_FX11_goByRecordc1 _  _ e))
theorem frP_FX11_play {h0 : ph_H} (a0 : Int32) (a1 : Int32) (h : ph_H) (e : EQ pP h0 h) : EQ pP h0 (FX11_play a0 a1 h).2 := (EQ2_if e (EQ2_if e (EQ2_if e (EQ2_if e (EQ2_if (frP_FX11_play_54 _  _ (frP_FX3_begin_on _  _ e)) e)))))
def pFi (k i : Nat) : Bool := match k with
  | 0 => i == 8 || i == 9 || i == 10 || i == 12
  | 1 => i == 6 || i == 7
  | 2 => true
  | 3 => true
  | 4 => true
  | 5 => true
  | 6 => true
  | 7 => true
  | 8 => true
  | 9 => true
  | 10 => true
  | 11 => true
  | 12 => true
  | 13 => true
  | 14 => true
  | 15 => true
  | 16 => true
  | 17 => true
  | 18 => true
  | 19 => true
  | 20 => true
  | 21 => true
  | 22 => true
  | 23 => true
  | 24 => true
  | 35 => true
  | 36 => true
  | 37 => true
  | 38 => true
  | 39 => true
  | 40 => true
  | 41 => true
  | 42 => true
  | 43 => true
  | 44 => true
  | 45 => true
  | 46 => true
  | _ => false
theorem pFi_57 (n i : Nat) : pFi (57 + n) i = false := by
  unfold pFi
  split <;> first | omega | rfl
theorem frFi_FX3_hold_oc1 {h0 : ph_H} (a0 : Int32) (a1 : Int32) (a2 : Int32) (h : ph_H) (e : EQ pFi h0 h) : EQ pFi h0 (FX3_hold_oc1 a0 a1 a2 h).2 := (EQ_s rfl (EQ_s rfl e))
theorem frFi_FX3_getCell_oc1 {h0 : ph_H} (a0 : Int32) (a1 : Int32) (h : ph_H) (e : EQ pFi h0 h) : EQ pFi h0 (FX3_getCell_oc1 a0 a1 h).2 := (frFi_FX3_hold_oc1 _ _ _  _ (EQ_s rfl e))
theorem frFi_FX3_goTo_oc1 {h0 : ph_H} (a0 : Int32) (h : ph_H) (e : EQ pFi h0 h) : EQ pFi h0 (FX3_goTo_oc1 a0 h).2 := (EQ_s rfl e)
theorem frFi_FX3_goUnless_oc1_25 {h0 : ph_H} (s0 : Int32) (h : ph_H) (e : EQ pFi h0 h) : EQ pFi h0 (FX3_goUnless_oc1_25 s0 h).2 := e
theorem frFi_FX3_goUnless_oc1 {h0 : ph_H} (a0 : Int32) (a1 : Int32) (h : ph_H) (e : EQ pFi h0 h) : EQ pFi h0 (FX3_goUnless_oc1 a0 a1 h).2 := (EQ2_if (EQ2_if (frFi_FX3_goUnless_oc1_25 _  _ (frFi_FX3_goTo_oc1 _  _ e)) e) e)
theorem frFi_FX3_free_oc1 {h0 : ph_H} (a0 : Int32) (h : ph_H) (e : EQ pFi h0 h) : EQ pFi h0 (FX3_free_oc1 a0 h).2 := (EQ_s rfl (EQ_s rfl (EQ_s rfl e)))
theorem frFi_FX3_leaveLock_oc1 {h0 : ph_H} (a0 : Int32) (a1 : Int32) (h : ph_H) (e : EQ pFi h0 h) : EQ pFi h0 (FX3_leaveLock_oc1 a0 a1 h).2 := (EQ2_if (EQ2_if (frFi_FX3_free_oc1 _  _ e) e) e)
theorem frFi_FX3_lieDown_oc1 {h0 : ph_H} (a0 : Int32) (a1 : Int32) (h : ph_H) (e : EQ pFi h0 h) : EQ pFi h0 (FX3_lieDown_oc1 a0 a1 h).2 := (EQ2_if (EQ2_if (frFi_FX3_free_oc1 _  _ (EQ_s rfl (EQ_s rfl (EQ_s rfl e)))) e) e)
theorem frFi_FX3_makeThing_oc1 {h0 : ph_H} (a0 : Int32) (a1 : Int32) (a2 : Int32) (h : ph_H) (e : EQ pFi h0 h) : EQ pFi h0 (FX3_makeThing_oc1 a0 a1 a2 h).2 := (EQ_s rfl (EQ_s rfl (EQ_s rfl (EQ_s rfl (EQ_s rfl (EQ_s rfl e))))))
theorem frFi_FX3_makeLock_oc1_22 {h0 : ph_H} (s0 : Int32) (s1 : Int32) (h : ph_H) (e : EQ pFi h0 h) : EQ pFi h0 (FX3_makeLock_oc1_22 s0 s1 h).2 := (frFi_FX3_makeThing_oc1 _ _ _  _ e)
theorem frFi_FX3_makeLock_oc1 {h0 : ph_H} (a0 : Int32) (a1 : Int32) (h : ph_H) (e : EQ pFi h0 h) : EQ pFi h0 (FX3_makeLock_oc1 a0 a1 h).2 := (EQ2_if (EQ2_if (frFi_FX3_makeLock_oc1_22 _ _  _ e) (frFi_FX3_makeLock_oc1_22 _ _  _ e)) e)
theorem frFi_FX3_makeRow_oc1_44 {h0 : ph_H}  : ∀ (q : Nat) (y0 : Int32) (y1 : Int32) (y2 : Int32) (h : ph_H), EQ pFi h0 h → EQ pFi h0 (FX3_makeRow_oc1_44  q y0 y1 y2 h).2 := by
  intro q
  induction q with
  | zero =>
    intro y0 y1 y2 h e
    exact e
  | succ q ih =>
    intro y0 y1 y2 h e
    exact (EQ2_if (frFi_FX3_makeThing_oc1 _ _ _  _ e) (ih _ _ _ _ (EQ_s rfl e)))
theorem frFi_FX3_makeRow_oc1 {h0 : ph_H} (a0 : Int32) (a1 : Int32) (h : ph_H) (e : EQ pFi h0 h) : EQ pFi h0 (FX3_makeRow_oc1 a0 a1 h).2 := (EQ2_if (EQ2_if (EQ2_if e (EQ2_if (frFi_FX3_makeRow_oc1_44   _ _ _ _ _ e) e)) e) e)
theorem frFi_FX3_putCell_oc1 {h0 : ph_H} (a0 : Int32) (a1 : Int32) (h : ph_H) (e : EQ pFi h0 h) : EQ pFi h0 (FX3_putCell_oc1 a0 a1 h).2 := (frFi_FX3_hold_oc1 _ _ _  _ (EQ_s rfl e))
theorem frFi_FX3_readRow_oc1 {h0 : ph_H} (a0 : Int32) (a1 : Int32) (a2 : Int32) (h : ph_H) (e : EQ pFi h0 h) : EQ pFi h0 (FX3_readRow_oc1 a0 a1 a2 h).2 := (EQ2_if (EQ2_if (EQ2_if e (frFi_FX3_hold_oc1 _ _ _  _ (EQ_s rfl e))) e) e)
theorem frFi_FX3_reckon_oc1_58 {h0 : ph_H} (x2 : Int32) (s0 : Int32) (h : ph_H) (e : EQ pFi h0 h) : EQ pFi h0 (FX3_reckon_oc1_58 x2 s0 h).2 := (frFi_FX3_hold_oc1 _ _ _  _ e)
theorem frFi_FX3_reckon_oc1 {h0 : ph_H} (a0 : Int32) (a1 : Int32) (a2 : Int32) (h : ph_H) (e : EQ pFi h0 h) : EQ pFi h0 (FX3_reckon_oc1 a0 a1 a2 h).2 := (EQ2_if e (EQ2_if (frFi_FX3_reckon_oc1_58 _ _  _ e) (EQ2_if (frFi_FX3_reckon_oc1_58 _ _  _ e) (frFi_FX3_reckon_oc1_58 _ _  _ e))))
theorem frFi_FX3_startThread_oc1 {h0 : ph_H} (a0 : Int32) (h : ph_H) (e : EQ pFi h0 h) : EQ pFi h0 (FX3_startThread_oc1 a0 h).2 := (EQ2_if (EQ_s rfl (EQ_s rfl (EQ_s rfl e))) e)
theorem frFi_FX3_takeInput_oc1 {h0 : ph_H} (a0 : Int32) (h : ph_H) (e : EQ pFi h0 h) : EQ pFi h0 (FX3_takeInput_oc1 a0 h).2 := (EQ2_if e (EQ2_if (frFi_FX3_hold_oc1 _ _ _  _ (EQ_s rfl e)) e))
theorem frFi_FX3_own_oc1 {h0 : ph_H} (a0 : Int32) (a1 : Int32) (h : ph_H) (e : EQ pFi h0 h) : EQ pFi h0 (FX3_own_oc1 a0 a1 h).2 := (EQ_s rfl (EQ_s rfl (EQ_s rfl e)))
theorem frFi_FX3_takeLock_oc1 {h0 : ph_H} (a0 : Int32) (a1 : Int32) (h : ph_H) (e : EQ pFi h0 h) : EQ pFi h0 (FX3_takeLock_oc1 a0 a1 h).2 := (EQ2_if (EQ2_if e (frFi_FX3_own_oc1 _ _  _ e)) e)
theorem frFi_FX3_wakeSleepers_oc1_64 {h0 : ph_H} (L28 : Int32 → Int32 → ph_H → Int32 × ph_H) (x3 : Int32) (x4 : Int32) (hL28 : ∀ (y0 : Int32) (y1 : Int32) (h : ph_H), EQ pFi h0 h → EQ pFi h0 (L28 y0 y1 h).2) (h : ph_H) (e : EQ pFi h0 h) : EQ pFi h0 (FX3_wakeSleepers_oc1_64 L28 x3 x4 h).2 := (hL28 _ _ _ e)
theorem frFi_FX3_wakeSleepers_oc1_28 {h0 : ph_H}  : ∀ (q : Nat) (y0 : Int32) (y1 : Int32) (h : ph_H), EQ pFi h0 h → EQ pFi h0 (FX3_wakeSleepers_oc1_28  q y0 y1 h).2 := by
  intro q
  induction q with
  | zero =>
    intro y0 y1 h e
    exact e
  | succ q ih =>
    intro y0 y1 h e
    exact (EQ2_if (EQ_s rfl e) (EQ2_if (EQ2_if (frFi_FX3_wakeSleepers_oc1_64 _ _ _ ih _ (EQ_s rfl e)) (frFi_FX3_wakeSleepers_oc1_64 _ _ _ ih _ e)) (frFi_FX3_wakeSleepers_oc1_64 _ _ _ ih _ e)))
theorem frFi_FX3_wakeSleepers_oc1 {h0 : ph_H} (a0 : Int32) (a1 : Int32) (h : ph_H) (e : EQ pFi h0 h) : EQ pFi h0 (FX3_wakeSleepers_oc1 a0 a1 h).2 := (EQ2_if (EQ2_if (frFi_FX3_wakeSleepers_oc1_28   _ _ _ _ e) e) e)
theorem frFi_FX3_writeRow_oc1 {h0 : ph_H} (a0 : Int32) (a1 : Int32) (a2 : Int32) (h : ph_H) (e : EQ pFi h0 h) : EQ pFi h0 (FX3_writeRow_oc1 a0 a1 a2 h).2 := (EQ2_if (EQ2_if e (EQ2_if e (EQ_s rfl (EQ_s rfl e)))) e)
theorem frFi_FX3_perform_oc1_288 {h0 : ph_H} (s0 : Int32) (s1 : Int32) (h : ph_H) (e : EQ pFi h0 h) : EQ pFi h0 (FX3_perform_oc1_288 s0 s1 h).2 := (frFi_FX3_makeLock_oc1 _ _  _ e)
theorem frFi_FX3_perform_oc1 {h0 : ph_H} (a0 : Int32) (h : ph_H) (e : EQ pFi h0 h) : EQ pFi h0 (FX3_perform_oc1 a0 h).2 := (EQ2_if (frFi_FX3_hold_oc1 _ _ _  _ e) (EQ2_if (frFi_FX3_getCell_oc1 _ _  _ e) (EQ2_if (frFi_FX3_putCell_oc1 _ _  _ e) (EQ2_if (frFi_FX3_reckon_oc1 _ _ _  _ e) (EQ2_if (frFi_FX3_reckon_oc1 _ _ _  _ e) (EQ2_if (frFi_FX3_reckon_oc1 _ _ _  _ e) (EQ2_if (frFi_FX3_goTo_oc1 _  _ e) (EQ2_if (frFi_FX3_goUnless_oc1 _ _  _ e) (EQ2_if (frFi_FX3_makeRow_oc1 _ _  _ e) (EQ2_if (frFi_FX3_readRow_oc1 _ _ _  _ e) (EQ2_if (frFi_FX3_writeRow_oc1 _ _ _  _ e) (EQ2_if (EQ2_if (frFi_FX3_perform_oc1_288 _ _  _ e) (frFi_FX3_perform_oc1_288 _ _  _ e)) (EQ2_if (frFi_FX3_takeLock_oc1 _ _  _ e) (EQ2_if (frFi_FX3_leaveLock_oc1 _ _  _ e) (EQ2_if (frFi_FX3_lieDown_oc1 _ _  _ e) (EQ2_if (frFi_FX3_wakeSleepers_oc1 _ _  _ e) (EQ2_if (frFi_FX3_takeInput_oc1 _  _ e) (EQ2_if (frFi_FX3_startThread_oc1 _  _ e) (EQ2_if e (frFi_FX3_goTo_oc1 _  _ e))))))))))))))))))))
theorem frFi_FX3_rise_oc1 {h0 : ph_H} (a0 : Int32) (h : ph_H) (e : EQ pFi h0 h) : EQ pFi h0 (FX3_rise_oc1 a0 h).2 := (frFi_FX3_own_oc1 _ _  _ (EQ_s rfl e))
theorem frFi_FX3_go_oc1_67 {h0 : ph_H} (x1 : Int32) (s0 : Int32) (h : ph_H) (e : EQ pFi h0 h) : EQ pFi h0 (FX3_go_oc1_67 x1 s0 h).2 := (EQ2_if (EQ_s rfl e) e)
theorem frFi_FX3_go_oc1_59 {h0 : ph_H} (x1 : Int32) (s0 : Int32) (h : ph_H) (e : EQ pFi h0 h) : EQ pFi h0 (FX3_go_oc1_59 x1 s0 h).2 := (frFi_FX3_go_oc1_67 _ _  _ e)
theorem frFi_FX3_go_oc1 {h0 : ph_H} (a0 : Int32) (h : ph_H) (e : EQ pFi h0 h) : EQ pFi h0 (FX3_go_oc1 a0 h).2 := (EQ2_if e (EQ2_if (frFi_FX3_go_oc1_59 _ _  _ (frFi_FX3_rise_oc1 _  _ (EQ_s rfl (EQ_s rfl (EQ_s rfl (EQ_s rfl (EQ_s rfl e))))))) (frFi_FX3_go_oc1_67 _ _  _ (frFi_FX3_perform_oc1 _  _ (EQ_s rfl (EQ_s rfl (EQ_s rfl (EQ_s rfl (EQ_s rfl e)))))))))
theorem frFi_FJ7_fill_53178_k26_5 {h0 : ph_H}  : ∀ (q : Nat) (y0 : Int32) (y1 : Int32) (y2 : Int32) (h : ph_H), EQ pFi h0 h → EQ pFi h0 (FJ7_fill_53178_k26_5  q y0 y1 y2 h) := by
  intro q
  induction q with
  | zero =>
    intro y0 y1 y2 h e
    exact e
  | succ q ih =>
    intro y0 y1 y2 h e
    exact (EQ_if e (ih _ _ _ _ (EQ_s rfl e)))
theorem frFi_FJ7_fill_53178_k26 {h0 : ph_H} (a1 : Int32) (h : ph_H) (e : EQ pFi h0 h) : EQ pFi h0 (FJ7_fill_53178_k26 a1 h) := (frFi_FJ7_fill_53178_k26_5   _ _ _ _ _ e)
theorem frFi_FJ7_fill_53178_k27_5 {h0 : ph_H}  : ∀ (q : Nat) (y0 : Int32) (y1 : Int32) (y2 : Int32) (h : ph_H), EQ pFi h0 h → EQ pFi h0 (FJ7_fill_53178_k27_5  q y0 y1 y2 h) := by
  intro q
  induction q with
  | zero =>
    intro y0 y1 y2 h e
    exact e
  | succ q ih =>
    intro y0 y1 y2 h e
    exact (EQ_if e (ih _ _ _ _ (EQ_s rfl e)))
theorem frFi_FJ7_fill_53178_k27 {h0 : ph_H} (a1 : Int32) (h : ph_H) (e : EQ pFi h0 h) : EQ pFi h0 (FJ7_fill_53178_k27 a1 h) := (frFi_FJ7_fill_53178_k27_5   _ _ _ _ _ e)
theorem frFi_FJ7_fill_53178_k28_5 {h0 : ph_H}  : ∀ (q : Nat) (y0 : Int32) (y1 : Int32) (y2 : Int32) (h : ph_H), EQ pFi h0 h → EQ pFi h0 (FJ7_fill_53178_k28_5  q y0 y1 y2 h) := by
  intro q
  induction q with
  | zero =>
    intro y0 y1 y2 h e
    exact e
  | succ q ih =>
    intro y0 y1 y2 h e
    exact (EQ_if e (ih _ _ _ _ (EQ_s rfl e)))
theorem frFi_FJ7_fill_53178_k28 {h0 : ph_H} (a1 : Int32) (h : ph_H) (e : EQ pFi h0 h) : EQ pFi h0 (FJ7_fill_53178_k28 a1 h) := (frFi_FJ7_fill_53178_k28_5   _ _ _ _ _ e)
theorem frFi_FJ7_fill_53178_k29_5 {h0 : ph_H}  : ∀ (q : Nat) (y0 : Int32) (y1 : Int32) (y2 : Int32) (h : ph_H), EQ pFi h0 h → EQ pFi h0 (FJ7_fill_53178_k29_5  q y0 y1 y2 h) := by
  intro q
  induction q with
  | zero =>
    intro y0 y1 y2 h e
    exact e
  | succ q ih =>
    intro y0 y1 y2 h e
    exact (EQ_if e (ih _ _ _ _ (EQ_s rfl e)))
theorem frFi_FJ7_fill_53178_k29 {h0 : ph_H} (a1 : Int32) (h : ph_H) (e : EQ pFi h0 h) : EQ pFi h0 (FJ7_fill_53178_k29 a1 h) := (frFi_FJ7_fill_53178_k29_5   _ _ _ _ _ e)
theorem frFi_FX3_begin_on_52 {h0 : ph_H} (x2 : Int32) (h : ph_H) (e : EQ pFi h0 h) : EQ pFi h0 (FX3_begin_on_52 x2 h) := (EQ_s rfl (EQ_s rfl (EQ_s rfl (EQ_s rfl e))))
theorem frFi_FX3_begin_on_44 {h0 : ph_H} (x2 : Int32) (h : ph_H) (e : EQ pFi h0 h) : EQ pFi h0 (FX3_begin_on_44 x2 h) := (frFi_FX3_begin_on_52 _  _ (frFi_FJ7_fill_53178_k29 _  _ e))
theorem frFi_FX3_begin_on_21 {h0 : ph_H} (x2 : Int32) (h : ph_H) (e : EQ pFi h0 h) : EQ pFi h0 (FX3_begin_on_21 x2 h) := (frFi_FX3_begin_on_44 _  _ (frFi_FJ7_fill_53178_k28 _  _ (EQ_c (fun _ => rfl) e)))
theorem frFi_FX3_begin_on_13 {h0 : ph_H} (x2 : Int32) (h : ph_H) (e : EQ pFi h0 h) : EQ pFi h0 (FX3_begin_on_13 x2 h) := (frFi_FX3_begin_on_21 _  _ (frFi_FJ7_fill_53178_k27 _  _ e))
theorem frFi_FX3_begin_on {h0 : ph_H} (a1 : Int32) (h : ph_H) (e : EQ pFi h0 h) : EQ pFi h0 (FX3_begin_on a1 h) := (frFi_FX3_begin_on_13 _  _ (frFi_FJ7_fill_53178_k26 _  _ e))
theorem frFi_FX6_goThrough_97 {h0 : ph_H} (L37 : Int32 → Int32 → ph_H → ph_H) (x1 : Int32) (x2 : Int32) (s0 : Int32) (hL37 : ∀ (y0 : Int32) (y1 : Int32) (h : ph_H), EQ pFi h0 h → EQ pFi h0 (L37 y0 y1 h)) (h : ph_H) (e : EQ pFi h0 h) : EQ pFi h0 (FX6_goThrough_97 L37 x1 x2 s0 h) := (hL37 _ _ _ (EQ_s rfl (EQ_s rfl e)))
theorem frFi_FX6_goThrough_82 {h0 : ph_H} (L37 : Int32 → Int32 → ph_H → ph_H) (x1 : Int32) (x2 : Int32) (hL37 : ∀ (y0 : Int32) (y1 : Int32) (h : ph_H), EQ pFi h0 h → EQ pFi h0 (L37 y0 y1 h)) (h : ph_H) (e : EQ pFi h0 h) : EQ pFi h0 (FX6_goThrough_82 L37 x1 x2 h) := (frFi_FX6_goThrough_97 _ _ _ _ hL37 _ (frFi_FX3_go_oc1 _  _ e))
theorem frFi_FX6_goThrough_122 {h0 : ph_H} (x1 : Int32) (h : ph_H) (e : EQ pFi h0 h) : EQ pFi h0 (FX6_goThrough_122 x1 h) := (EQ_if e (EQ_s rfl e))
theorem frFi_FX6_goThrough_37 {h0 : ph_H}  : ∀ (q : Nat) (y0 : Int32) (y1 : Int32) (h : ph_H), EQ pFi h0 h → EQ pFi h0 (FX6_goThrough_37  q y0 y1 h) := by
  intro q
  induction q with
  | zero =>
    intro y0 y1 h e
    exact e
  | succ q ih =>
    intro y0 y1 h e
    exact (EQ_if (frFi_FX6_goThrough_122 _  _ e) (EQ_if (frFi_FX6_goThrough_122 _  _ e) (EQ_if (EQ_if (frFi_FX6_goThrough_82 _ _ _ ih _ e) (frFi_FX6_goThrough_82 _ _ _ ih _ (EQ_s (pFi_57 _ _) e))) (frFi_FX6_goThrough_122 _  _ e))))
theorem frFi_FX6_goThrough_18 {h0 : ph_H} (x1 : Int32) (h : ph_H) (e : EQ pFi h0 h) : EQ pFi h0 (FX6_goThrough_18 x1 h) := (frFi_FX6_goThrough_37   _ _ _ _ (EQ_s rfl (EQ_s rfl e)))
theorem frFi_FX6_goThrough {h0 : ph_H} (a0 : Int32) (h : ph_H) (e : EQ pFi h0 h) : EQ pFi h0 (FX6_goThrough a0 h) := (frFi_FX6_goThrough_18 _  _ (frFi_FX3_begin_on _  _ e))
theorem frFi_FX3_begin_onc1_52 {h0 : ph_H} (x2 : Int32) (h : ph_H) (e : EQ pFi h0 h) : EQ pFi h0 (FX3_begin_onc1_52 x2 h) := (EQ_s rfl (EQ_s rfl (EQ_s rfl (EQ_s rfl e))))
theorem frFi_FX3_begin_onc1_44 {h0 : ph_H} (x2 : Int32) (h : ph_H) (e : EQ pFi h0 h) : EQ pFi h0 (FX3_begin_onc1_44 x2 h) := (frFi_FX3_begin_onc1_52 _  _ (frFi_FJ7_fill_53178_k29 _  _ e))
theorem frFi_FX3_begin_onc1_21 {h0 : ph_H} (x2 : Int32) (h : ph_H) (e : EQ pFi h0 h) : EQ pFi h0 (FX3_begin_onc1_21 x2 h) := (frFi_FX3_begin_onc1_44 _  _ (frFi_FJ7_fill_53178_k28 _  _ (EQ_c (fun _ => rfl) e)))
theorem frFi_FX3_begin_onc1_13 {h0 : ph_H} (x2 : Int32) (h : ph_H) (e : EQ pFi h0 h) : EQ pFi h0 (FX3_begin_onc1_13 x2 h) := (frFi_FX3_begin_onc1_21 _  _ (frFi_FJ7_fill_53178_k27 _  _ e))
theorem frFi_FX3_begin_onc1 {h0 : ph_H} (a1 : Int32) (h : ph_H) (e : EQ pFi h0 h) : EQ pFi h0 (FX3_begin_onc1 a1 h) := (frFi_FX3_begin_onc1_13 _  _ (frFi_FJ7_fill_53178_k26 _  _ e))
theorem frFi_FX6_goThroughc1_97 {h0 : ph_H} (L37 : Int32 → Int32 → ph_H → ph_H) (x1 : Int32) (x2 : Int32) (s0 : Int32) (hL37 : ∀ (y0 : Int32) (y1 : Int32) (h : ph_H), EQ pFi h0 h → EQ pFi h0 (L37 y0 y1 h)) (h : ph_H) (e : EQ pFi h0 h) : EQ pFi h0 (FX6_goThroughc1_97 L37 x1 x2 s0 h) := (hL37 _ _ _ (EQ_s rfl (EQ_s rfl e)))
theorem frFi_FX6_goThroughc1_82 {h0 : ph_H} (L37 : Int32 → Int32 → ph_H → ph_H) (x1 : Int32) (x2 : Int32) (hL37 : ∀ (y0 : Int32) (y1 : Int32) (h : ph_H), EQ pFi h0 h → EQ pFi h0 (L37 y0 y1 h)) (h : ph_H) (e : EQ pFi h0 h) : EQ pFi h0 (FX6_goThroughc1_82 L37 x1 x2 h) := (frFi_FX6_goThroughc1_97 _ _ _ _ hL37 _ (frFi_FX3_go_oc1 _  _ e))
theorem frFi_FX6_goThroughc1_122 {h0 : ph_H} (x1 : Int32) (h : ph_H) (e : EQ pFi h0 h) : EQ pFi h0 (FX6_goThroughc1_122 x1 h) := (EQ_if e (EQ_s rfl e))
theorem frFi_FX6_goThroughc1_37 {h0 : ph_H}  : ∀ (q : Nat) (y0 : Int32) (y1 : Int32) (h : ph_H), EQ pFi h0 h → EQ pFi h0 (FX6_goThroughc1_37  q y0 y1 h) := by
  intro q
  induction q with
  | zero =>
    intro y0 y1 h e
    exact e
  | succ q ih =>
    intro y0 y1 h e
    exact (EQ_if (frFi_FX6_goThroughc1_122 _  _ e) (EQ_if (frFi_FX6_goThroughc1_122 _  _ e) (EQ_if (EQ_if (frFi_FX6_goThroughc1_82 _ _ _ ih _ e) (frFi_FX6_goThroughc1_82 _ _ _ ih _ (EQ_s (pFi_57 _ _) e))) (frFi_FX6_goThroughc1_122 _  _ e))))
theorem frFi_FX6_goThroughc1_18 {h0 : ph_H} (x1 : Int32) (h : ph_H) (e : EQ pFi h0 h) : EQ pFi h0 (FX6_goThroughc1_18 x1 h) := (frFi_FX6_goThroughc1_37   _ _ _ _ (EQ_s rfl (EQ_s rfl e)))
theorem frFi_FX6_goThroughc1 {h0 : ph_H} (a0 : Int32) (h : ph_H) (e : EQ pFi h0 h) : EQ pFi h0 (FX6_goThroughc1 a0 h) := (frFi_FX6_goThroughc1_18 _  _ (frFi_FX3_begin_onc1 _  _ e))
theorem frFi_FX6_putAhead {h0 : ph_H} (a0 : Int32) (a1 : Int32) (h : ph_H) (e : EQ pFi h0 h) : EQ pFi h0 (FX6_putAhead a0 a1 h) := (EQ_s rfl (EQ_s rfl e))
theorem frFi_FX6_moveOn_29 {h0 : ph_H} (L16 : Int32 → Int32 → Int32 → ph_H → Int32 × ph_H) (hL16 : ∀ (y0 : Int32) (y1 : Int32) (y2 : Int32) (h : ph_H), EQ pFi h0 h → EQ pFi h0 (L16 y0 y1 y2 h).2) : ∀ (q : Nat) (y0 : Int32) (y1 : Int32) (y2 : Int32) (h : ph_H), EQ pFi h0 h → EQ pFi h0 (FX6_moveOn_29 L16 q y0 y1 y2 h).2 := by
  intro q
  induction q with
  | zero =>
    intro y0 y1 y2 h e
    exact e
  | succ q ih =>
    intro y0 y1 y2 h e
    exact (EQ2_if (hL16 _ _ _ _ e) (EQ2_if (ih _ _ _ _ e) (EQ_s rfl (EQ_s rfl e))))
theorem frFi_FX6_moveOn_16 {h0 : ph_H}  : ∀ (q : Nat) (y0 : Int32) (y1 : Int32) (y2 : Int32) (h : ph_H), EQ pFi h0 h → EQ pFi h0 (FX6_moveOn_16  q y0 y1 y2 h).2 := by
  intro q
  induction q with
  | zero =>
    intro y0 y1 y2 h e
    exact e
  | succ q ih =>
    intro y0 y1 y2 h e
    exact (EQ2_if e (frFi_FX6_moveOn_29 _ ih _ _ _ _ _ e))
theorem frFi_FX6_moveOn {h0 : ph_H} (a0 : Int32) (h : ph_H) (e : EQ pFi h0 h) : EQ pFi h0 (FX6_moveOn a0 h).2 := (frFi_FX6_moveOn_16   _ _ _ _ _ e)
theorem frFi_FX6_putChangesc1_71 {h0 : ph_H} (L16 : Int32 → ph_H → Int32 × ph_H) (x1 : Int32) (hL16 : ∀ (y0 : Int32) (h : ph_H), EQ pFi h0 h → EQ pFi h0 (L16 y0 h).2) (h : ph_H) (e : EQ pFi h0 h) : EQ pFi h0 (FX6_putChangesc1_71 L16 x1 h).2 := (hL16 _ _ e)
theorem frFi_FX6_putChangesc1_53 {h0 : ph_H} (L16 : Int32 → ph_H → Int32 × ph_H) (x1 : Int32) (hL16 : ∀ (y0 : Int32) (h : ph_H), EQ pFi h0 h → EQ pFi h0 (L16 y0 h).2) (h : ph_H) (e : EQ pFi h0 h) : EQ pFi h0 (FX6_putChangesc1_53 L16 x1 h).2 := (frFi_FX6_putChangesc1_71 _ _ hL16 _ (frFi_FX6_putAhead _ _  _ (EQ_s rfl e)))
theorem frFi_FX6_putChangesc1_38 {h0 : ph_H} (L16 : Int32 → ph_H → Int32 × ph_H) (x1 : Int32) (s0 : Int32) (hL16 : ∀ (y0 : Int32) (h : ph_H), EQ pFi h0 h → EQ pFi h0 (L16 y0 h).2) (h : ph_H) (e : EQ pFi h0 h) : EQ pFi h0 (FX6_putChangesc1_38 L16 x1 s0 h).2 := (EQ2_if e (frFi_FX6_putChangesc1_53 _ _ hL16 _ (frFi_FX6_goThroughc1 _  _ (EQ_s rfl e))))
theorem frFi_FX6_putChangesc1_28 {h0 : ph_H} (L16 : Int32 → ph_H → Int32 × ph_H) (x1 : Int32) (s0 : Int32) (hL16 : ∀ (y0 : Int32) (h : ph_H), EQ pFi h0 h → EQ pFi h0 (L16 y0 h).2) (h : ph_H) (e : EQ pFi h0 h) : EQ pFi h0 (FX6_putChangesc1_28 L16 x1 s0 h).2 := (EQ2_if (frFi_FX6_putChangesc1_38 _ _ _ hL16 _ (frFi_FX6_moveOn _  _ e)) e)
theorem frFi_FX6_putChangesc1_16 {h0 : ph_H}  : ∀ (q : Nat) (y0 : Int32) (h : ph_H), EQ pFi h0 h → EQ pFi h0 (FX6_putChangesc1_16  q y0 h).2 := by
  intro q
  induction q with
  | zero =>
    intro y0 h e
    exact e
  | succ q ih =>
    intro y0 h e
    exact (EQ2_if e (frFi_FX6_putChangesc1_28 _ _ _ ih _ (frFi_FX6_moveOn _  _ e)))
theorem frFi_FX6_putChangesc1 {h0 : ph_H}  (h : ph_H) (e : EQ pFi h0 h) : EQ pFi h0 (FX6_putChangesc1 h).2 := (EQ2_if (frFi_FX6_moveOn _  _ e) (frFi_FX6_putChangesc1_16   _ _ _ e))
theorem frFi_FX6_look_84 {h0 : ph_H} (L17 : Int32 → Int32 → Int32 → ph_H → Int32 × ph_H) (L47 : Int32 → Int32 → Int32 → ph_H → Int32 × ph_H) (x1 : Int32) (x2 : Int32) (x3 : Int32) (hL17 : ∀ (y0 : Int32) (y1 : Int32) (y2 : Int32) (h : ph_H), EQ pFi h0 h → EQ pFi h0 (L17 y0 y1 y2 h).2) (hL47 : ∀ (y0 : Int32) (y1 : Int32) (y2 : Int32) (h : ph_H), EQ pFi h0 h → EQ pFi h0 (L47 y0 y1 y2 h).2) (h : ph_H) (e : EQ pFi h0 h) : EQ pFi h0 (FX6_look_84 L17 L47 x1 x2 x3 h).2 := (hL47 _ _ _ _ e)
theorem frFi_FX6_look_87 {h0 : ph_H} (L17 : Int32 → Int32 → Int32 → ph_H → Int32 × ph_H) (x1 : Int32) (x2 : Int32) (x3 : Int32) (hL17 : ∀ (y0 : Int32) (y1 : Int32) (y2 : Int32) (h : ph_H), EQ pFi h0 h → EQ pFi h0 (L17 y0 y1 y2 h).2) (h : ph_H) (e : EQ pFi h0 h) : EQ pFi h0 (FX6_look_87 L17 x1 x2 x3 h).2 := (hL17 _ _ _ _ e)
theorem frFi_FX6_look_66 {h0 : ph_H} (L17 : Int32 → Int32 → Int32 → ph_H → Int32 × ph_H) (L47 : Int32 → Int32 → Int32 → ph_H → Int32 × ph_H) (x1 : Int32) (x2 : Int32) (x3 : Int32) (s0 : Int32) (hL17 : ∀ (y0 : Int32) (y1 : Int32) (y2 : Int32) (h : ph_H), EQ pFi h0 h → EQ pFi h0 (L17 y0 y1 y2 h).2) (hL47 : ∀ (y0 : Int32) (y1 : Int32) (y2 : Int32) (h : ph_H), EQ pFi h0 h → EQ pFi h0 (L47 y0 y1 y2 h).2) (h : ph_H) (e : EQ pFi h0 h) : EQ pFi h0 (FX6_look_66 L17 L47 x1 x2 x3 s0 h).2 := (EQ2_if (frFi_FX6_look_87 _ _ _ _ hL17 _ e) (frFi_FX6_look_84 _ _ _ _ _ hL17 hL47 _ (frFi_FX6_goThroughc1 _  _ (EQ_s rfl e))))
theorem frFi_FX6_look_47 {h0 : ph_H} (L17 : Int32 → Int32 → Int32 → ph_H → Int32 × ph_H) (hL17 : ∀ (y0 : Int32) (y1 : Int32) (y2 : Int32) (h : ph_H), EQ pFi h0 h → EQ pFi h0 (L17 y0 y1 y2 h).2) : ∀ (q : Nat) (y0 : Int32) (y1 : Int32) (y2 : Int32) (h : ph_H), EQ pFi h0 h → EQ pFi h0 (FX6_look_47 L17 q y0 y1 y2 h).2 := by
  intro q
  induction q with
  | zero =>
    intro y0 y1 y2 h e
    exact e
  | succ q ih =>
    intro y0 y1 y2 h e
    exact (EQ2_if (frFi_FX6_look_87 _ _ _ _ hL17 _ e) (EQ2_if (frFi_FX6_look_66 _ _ _ _ _ _ hL17 ih _ (frFi_FX6_putChangesc1   _ e)) (frFi_FX6_look_87 _ _ _ _ hL17 _ e)))
theorem frFi_FX6_look_40 {h0 : ph_H} (L17 : Int32 → Int32 → Int32 → ph_H → Int32 × ph_H) (x1 : Int32) (x2 : Int32) (x3 : Int32) (hL17 : ∀ (y0 : Int32) (y1 : Int32) (y2 : Int32) (h : ph_H), EQ pFi h0 h → EQ pFi h0 (L17 y0 y1 y2 h).2) (h : ph_H) (e : EQ pFi h0 h) : EQ pFi h0 (FX6_look_40 L17 x1 x2 x3 h).2 := (frFi_FX6_look_47 _ hL17 _ _ _ _ _ (EQ_s rfl e))
theorem frFi_FX6_look_106 {h0 : ph_H} (s0 : Int32) (h : ph_H) (e : EQ pFi h0 h) : EQ pFi h0 (FX6_look_106 s0 h).2 := (EQ2_if (EQ_s rfl e) (EQ_s rfl e))
theorem frFi_FX6_look_93 {h0 : ph_H}  (h : ph_H) (e : EQ pFi h0 h) : EQ pFi h0 (FX6_look_93 h).2 := (EQ2_if (frFi_FX6_look_106 _  _ e) (frFi_FX6_look_106 _  _ e))
theorem frFi_FX6_look_17 {h0 : ph_H}  : ∀ (q : Nat) (y0 : Int32) (y1 : Int32) (y2 : Int32) (h : ph_H), EQ pFi h0 h → EQ pFi h0 (FX6_look_17  q y0 y1 y2 h).2 := by
  intro q
  induction q with
  | zero =>
    intro y0 y1 y2 h e
    exact e
  | succ q ih =>
    intro y0 y1 y2 h e
    exact (EQ2_if (frFi_FX6_look_93   _ e) (EQ2_if (frFi_FX6_look_40 _ _ _ _ ih _ (frFi_FX6_putAhead _ _  _ (EQ_s rfl e))) (frFi_FX6_look_93   _ e)))
theorem frFi_FX6_look_15 {h0 : ph_H} (x1 : Int32) (x2 : Int32) (h : ph_H) (e : EQ pFi h0 h) : EQ pFi h0 (FX6_look_15 x1 x2 h).2 := (frFi_FX6_look_17   _ _ _ _ _ e)
theorem frFi_FX6_look {h0 : ph_H} (a0 : Int32) (a1 : Int32) (h : ph_H) (e : EQ pFi h0 h) : EQ pFi h0 (FX6_look a0 a1 h).2 := (frFi_FX6_look_15 _ _  _ (frFi_FX6_goThrough _  _ (EQ_s rfl (EQ_s rfl e))))
theorem frFi_FX11_find {h0 : ph_H} (a0 : Int32) (a1 : Int32) (h : ph_H) (e : EQ pFi h0 h) : EQ pFi h0 (FX11_find a0 a1 h).2 := (EQ2_if e (EQ2_if e (EQ2_if e (EQ2_if (frFi_FX6_look _ _  _ e) e))))
def pD (k i : Nat) : Bool := match k with
  | 0 => i == 8 || i == 10 || i == 12
  | 1 => i == 6 || i == 7
  | 2 => true
  | 3 => true
  | 4 => true
  | 5 => true
  | 6 => true
  | 7 => true
  | 8 => true
  | 9 => true
  | 10 => true
  | 11 => true
  | 12 => true
  | 13 => true
  | 14 => true
  | 35 => true
  | 36 => true
  | 37 => true
  | 38 => true
  | 39 => true
  | 40 => true
  | 41 => true
  | 42 => true
  | 43 => true
  | 44 => true
  | 45 => true
  | 46 => true
  | 52 => i == 6 || i == 8 || i == 9 || i == 10
  | 54 => true
  | 55 => true
  | _ => false
theorem pD_57 (n i : Nat) : pD (57 + n) i = false := by
  unfold pD
  split <;> first | omega | rfl
theorem frD_FX3_hold_s {h0 : ph_H} (a0 : Int32) (a1 : Int32) (a2 : Int32) (h : ph_H) (e : EQ pD h0 h) : EQ pD h0 (FX3_hold_s a0 a1 a2 h).2 := (EQ_s rfl (EQ_s rfl e))
theorem frD_FX3_getCell_s {h0 : ph_H} (a0 : Int32) (a1 : Int32) (h : ph_H) (e : EQ pD h0 h) : EQ pD h0 (FX3_getCell_s a0 a1 h).2 := (frD_FX3_hold_s _ _ _  _ (EQ_s rfl e))
theorem frD_FX3_goTo_s {h0 : ph_H} (a0 : Int32) (h : ph_H) (e : EQ pD h0 h) : EQ pD h0 (FX3_goTo_s a0 h).2 := (EQ_s rfl e)
theorem frD_FX3_goUnless_s_25 {h0 : ph_H} (s0 : Int32) (h : ph_H) (e : EQ pD h0 h) : EQ pD h0 (FX3_goUnless_s_25 s0 h).2 := e
theorem frD_FX3_goUnless_s {h0 : ph_H} (a0 : Int32) (a1 : Int32) (h : ph_H) (e : EQ pD h0 h) : EQ pD h0 (FX3_goUnless_s a0 a1 h).2 := (EQ2_if (EQ2_if (frD_FX3_goUnless_s_25 _  _ (frD_FX3_goTo_s _  _ e)) e) e)
theorem frD_FX3_free_s {h0 : ph_H} (a0 : Int32) (h : ph_H) (e : EQ pD h0 h) : EQ pD h0 (FX3_free_s a0 h).2 := (EQ_s rfl (EQ_s rfl (EQ_s rfl e)))
theorem frD_FX3_leaveLock_s {h0 : ph_H} (a0 : Int32) (a1 : Int32) (h : ph_H) (e : EQ pD h0 h) : EQ pD h0 (FX3_leaveLock_s a0 a1 h).2 := (EQ2_if (EQ2_if (frD_FX3_free_s _  _ e) e) e)
theorem frD_FX3_lieDown_s {h0 : ph_H} (a0 : Int32) (a1 : Int32) (h : ph_H) (e : EQ pD h0 h) : EQ pD h0 (FX3_lieDown_s a0 a1 h).2 := (EQ2_if (EQ2_if (frD_FX3_free_s _  _ (EQ_s rfl (EQ_s rfl (EQ_s rfl e)))) e) e)
theorem frD_FX3_makeThing_s {h0 : ph_H} (a0 : Int32) (a1 : Int32) (a2 : Int32) (h : ph_H) (e : EQ pD h0 h) : EQ pD h0 (FX3_makeThing_s a0 a1 a2 h).2 := (EQ_s rfl (EQ_s rfl (EQ_s rfl (EQ_s rfl (EQ_s rfl (EQ_s rfl e))))))
theorem frD_FX3_makeLock_s_22 {h0 : ph_H} (s0 : Int32) (s1 : Int32) (h : ph_H) (e : EQ pD h0 h) : EQ pD h0 (FX3_makeLock_s_22 s0 s1 h).2 := (frD_FX3_makeThing_s _ _ _  _ e)
theorem frD_FX3_makeLock_s {h0 : ph_H} (a0 : Int32) (a1 : Int32) (h : ph_H) (e : EQ pD h0 h) : EQ pD h0 (FX3_makeLock_s a0 a1 h).2 := (EQ2_if (EQ2_if (frD_FX3_makeLock_s_22 _ _  _ e) (frD_FX3_makeLock_s_22 _ _  _ e)) e)
theorem frD_FX3_makeRow_s_44 {h0 : ph_H}  : ∀ (q : Nat) (y0 : Int32) (y1 : Int32) (y2 : Int32) (h : ph_H), EQ pD h0 h → EQ pD h0 (FX3_makeRow_s_44  q y0 y1 y2 h).2 := by
  intro q
  induction q with
  | zero =>
    intro y0 y1 y2 h e
    exact e
  | succ q ih =>
    intro y0 y1 y2 h e
    exact (EQ2_if (frD_FX3_makeThing_s _ _ _  _ e) (ih _ _ _ _ (EQ_s rfl e)))
theorem frD_FX3_makeRow_s {h0 : ph_H} (a0 : Int32) (a1 : Int32) (h : ph_H) (e : EQ pD h0 h) : EQ pD h0 (FX3_makeRow_s a0 a1 h).2 := (EQ2_if (EQ2_if (EQ2_if e (EQ2_if (frD_FX3_makeRow_s_44   _ _ _ _ _ e) e)) e) e)
theorem frD_FX3_putCell_s {h0 : ph_H} (a0 : Int32) (a1 : Int32) (h : ph_H) (e : EQ pD h0 h) : EQ pD h0 (FX3_putCell_s a0 a1 h).2 := (frD_FX3_hold_s _ _ _  _ (EQ_s rfl e))
theorem frD_FX3_readRow_s {h0 : ph_H} (a0 : Int32) (a1 : Int32) (a2 : Int32) (h : ph_H) (e : EQ pD h0 h) : EQ pD h0 (FX3_readRow_s a0 a1 a2 h).2 := (EQ2_if (EQ2_if (EQ2_if e (frD_FX3_hold_s _ _ _  _ (EQ_s rfl e))) e) e)
theorem frD_FX3_reckon_s_58 {h0 : ph_H} (x2 : Int32) (s0 : Int32) (h : ph_H) (e : EQ pD h0 h) : EQ pD h0 (FX3_reckon_s_58 x2 s0 h).2 := (frD_FX3_hold_s _ _ _  _ e)
theorem frD_FX3_reckon_s {h0 : ph_H} (a0 : Int32) (a1 : Int32) (a2 : Int32) (h : ph_H) (e : EQ pD h0 h) : EQ pD h0 (FX3_reckon_s a0 a1 a2 h).2 := (EQ2_if e (EQ2_if (frD_FX3_reckon_s_58 _ _  _ e) (EQ2_if (frD_FX3_reckon_s_58 _ _  _ e) (frD_FX3_reckon_s_58 _ _  _ e))))
theorem frD_FX3_startThread_s {h0 : ph_H} (a0 : Int32) (h : ph_H) (e : EQ pD h0 h) : EQ pD h0 (FX3_startThread_s a0 h).2 := (EQ2_if (EQ_s rfl (EQ_s rfl (EQ_s rfl e))) e)
theorem frD_FX3_takeInput_s {h0 : ph_H} (a0 : Int32) (h : ph_H) (e : EQ pD h0 h) : EQ pD h0 (FX3_takeInput_s a0 h).2 := (EQ2_if e (EQ2_if (frD_FX3_hold_s _ _ _  _ (EQ_s rfl e)) e))
theorem frD_FX3_own_s {h0 : ph_H} (a0 : Int32) (a1 : Int32) (h : ph_H) (e : EQ pD h0 h) : EQ pD h0 (FX3_own_s a0 a1 h).2 := (EQ_s rfl (EQ_s rfl (EQ_s rfl e)))
theorem frD_FX3_takeLock_s {h0 : ph_H} (a0 : Int32) (a1 : Int32) (h : ph_H) (e : EQ pD h0 h) : EQ pD h0 (FX3_takeLock_s a0 a1 h).2 := (EQ2_if (EQ2_if e (frD_FX3_own_s _ _  _ e)) e)
theorem frD_FX3_wakeSleepers_s_64 {h0 : ph_H} (L28 : Int32 → Int32 → ph_H → Int32 × ph_H) (x3 : Int32) (x4 : Int32) (hL28 : ∀ (y0 : Int32) (y1 : Int32) (h : ph_H), EQ pD h0 h → EQ pD h0 (L28 y0 y1 h).2) (h : ph_H) (e : EQ pD h0 h) : EQ pD h0 (FX3_wakeSleepers_s_64 L28 x3 x4 h).2 := (hL28 _ _ _ e)
theorem frD_FX3_wakeSleepers_s_28 {h0 : ph_H}  : ∀ (q : Nat) (y0 : Int32) (y1 : Int32) (h : ph_H), EQ pD h0 h → EQ pD h0 (FX3_wakeSleepers_s_28  q y0 y1 h).2 := by
  intro q
  induction q with
  | zero =>
    intro y0 y1 h e
    exact e
  | succ q ih =>
    intro y0 y1 h e
    exact (EQ2_if (EQ_s rfl e) (EQ2_if (EQ2_if (frD_FX3_wakeSleepers_s_64 _ _ _ ih _ (EQ_s rfl e)) (frD_FX3_wakeSleepers_s_64 _ _ _ ih _ e)) (frD_FX3_wakeSleepers_s_64 _ _ _ ih _ e)))
theorem frD_FX3_wakeSleepers_s {h0 : ph_H} (a0 : Int32) (a1 : Int32) (h : ph_H) (e : EQ pD h0 h) : EQ pD h0 (FX3_wakeSleepers_s a0 a1 h).2 := (EQ2_if (EQ2_if (frD_FX3_wakeSleepers_s_28   _ _ _ _ e) e) e)
theorem frD_FX3_writeRow_s {h0 : ph_H} (a0 : Int32) (a1 : Int32) (a2 : Int32) (h : ph_H) (e : EQ pD h0 h) : EQ pD h0 (FX3_writeRow_s a0 a1 a2 h).2 := (EQ2_if (EQ2_if e (EQ2_if e (EQ_s rfl (EQ_s rfl e)))) e)
theorem frD_FX3_perform_s_288 {h0 : ph_H} (s0 : Int32) (s1 : Int32) (h : ph_H) (e : EQ pD h0 h) : EQ pD h0 (FX3_perform_s_288 s0 s1 h).2 := (frD_FX3_makeLock_s _ _  _ e)
theorem frD_FX3_perform_s {h0 : ph_H} (a0 : Int32) (h : ph_H) (e : EQ pD h0 h) : EQ pD h0 (FX3_perform_s a0 h).2 := (EQ2_if (frD_FX3_hold_s _ _ _  _ e) (EQ2_if (frD_FX3_getCell_s _ _  _ e) (EQ2_if (frD_FX3_putCell_s _ _  _ e) (EQ2_if (frD_FX3_reckon_s _ _ _  _ e) (EQ2_if (frD_FX3_reckon_s _ _ _  _ e) (EQ2_if (frD_FX3_reckon_s _ _ _  _ e) (EQ2_if (frD_FX3_goTo_s _  _ e) (EQ2_if (frD_FX3_goUnless_s _ _  _ e) (EQ2_if (frD_FX3_makeRow_s _ _  _ e) (EQ2_if (frD_FX3_readRow_s _ _ _  _ e) (EQ2_if (frD_FX3_writeRow_s _ _ _  _ e) (EQ2_if (EQ2_if (frD_FX3_perform_s_288 _ _  _ e) (frD_FX3_perform_s_288 _ _  _ e)) (EQ2_if (frD_FX3_takeLock_s _ _  _ e) (EQ2_if (frD_FX3_leaveLock_s _ _  _ e) (EQ2_if (frD_FX3_lieDown_s _ _  _ e) (EQ2_if (frD_FX3_wakeSleepers_s _ _  _ e) (EQ2_if (frD_FX3_takeInput_s _  _ e) (EQ2_if (frD_FX3_startThread_s _  _ e) (EQ2_if e (frD_FX3_goTo_s _  _ e))))))))))))))))))))
theorem frD_FX3_rise_s {h0 : ph_H} (a0 : Int32) (h : ph_H) (e : EQ pD h0 h) : EQ pD h0 (FX3_rise_s a0 h).2 := (frD_FX3_own_s _ _  _ (EQ_s rfl e))
theorem frD_FX3_go_s_67 {h0 : ph_H} (x1 : Int32) (s0 : Int32) (h : ph_H) (e : EQ pD h0 h) : EQ pD h0 (FX3_go_s_67 x1 s0 h).2 := (EQ2_if (EQ_s rfl e) e)
theorem frD_FX3_go_s_59 {h0 : ph_H} (x1 : Int32) (s0 : Int32) (h : ph_H) (e : EQ pD h0 h) : EQ pD h0 (FX3_go_s_59 x1 s0 h).2 := (frD_FX3_go_s_67 _ _  _ e)
theorem frD_FX3_go_s {h0 : ph_H} (a0 : Int32) (h : ph_H) (e : EQ pD h0 h) : EQ pD h0 (FX3_go_s a0 h).2 := (EQ2_if e (EQ2_if (frD_FX3_go_s_59 _ _  _ (frD_FX3_rise_s _  _ (EQ_s rfl (EQ_s rfl (EQ_s rfl (EQ_s rfl (EQ_s rfl e))))))) (frD_FX3_go_s_67 _ _  _ (frD_FX3_perform_s _  _ (EQ_s rfl (EQ_s rfl (EQ_s rfl (EQ_s rfl (EQ_s rfl e)))))))))
theorem frD_FJ7_fill_53178_k16_5 {h0 : ph_H}  : ∀ (q : Nat) (y0 : Int32) (y1 : Int32) (y2 : Int32) (h : ph_H), EQ pD h0 h → EQ pD h0 (FJ7_fill_53178_k16_5  q y0 y1 y2 h) := by
  intro q
  induction q with
  | zero =>
    intro y0 y1 y2 h e
    exact e
  | succ q ih =>
    intro y0 y1 y2 h e
    exact (EQ_if e (ih _ _ _ _ (EQ_s rfl e)))
theorem frD_FJ7_fill_53178_k16 {h0 : ph_H} (a1 : Int32) (h : ph_H) (e : EQ pD h0 h) : EQ pD h0 (FJ7_fill_53178_k16 a1 h) := (frD_FJ7_fill_53178_k16_5   _ _ _ _ _ e)
theorem frD_FJ7_fill_53178_k17_5 {h0 : ph_H}  : ∀ (q : Nat) (y0 : Int32) (y1 : Int32) (y2 : Int32) (h : ph_H), EQ pD h0 h → EQ pD h0 (FJ7_fill_53178_k17_5  q y0 y1 y2 h) := by
  intro q
  induction q with
  | zero =>
    intro y0 y1 y2 h e
    exact e
  | succ q ih =>
    intro y0 y1 y2 h e
    exact (EQ_if e (ih _ _ _ _ (EQ_s rfl e)))
theorem frD_FJ7_fill_53178_k17 {h0 : ph_H} (a1 : Int32) (h : ph_H) (e : EQ pD h0 h) : EQ pD h0 (FJ7_fill_53178_k17 a1 h) := (frD_FJ7_fill_53178_k17_5   _ _ _ _ _ e)
theorem frD_FJ7_fill_53178_k18_5 {h0 : ph_H}  : ∀ (q : Nat) (y0 : Int32) (y1 : Int32) (y2 : Int32) (h : ph_H), EQ pD h0 h → EQ pD h0 (FJ7_fill_53178_k18_5  q y0 y1 y2 h) := by
  intro q
  induction q with
  | zero =>
    intro y0 y1 y2 h e
    exact e
  | succ q ih =>
    intro y0 y1 y2 h e
    exact (EQ_if e (ih _ _ _ _ (EQ_s rfl e)))
theorem frD_FJ7_fill_53178_k18 {h0 : ph_H} (a1 : Int32) (h : ph_H) (e : EQ pD h0 h) : EQ pD h0 (FJ7_fill_53178_k18 a1 h) := (frD_FJ7_fill_53178_k18_5   _ _ _ _ _ e)
theorem frD_FJ7_fill_53178_k19_5 {h0 : ph_H}  : ∀ (q : Nat) (y0 : Int32) (y1 : Int32) (y2 : Int32) (h : ph_H), EQ pD h0 h → EQ pD h0 (FJ7_fill_53178_k19_5  q y0 y1 y2 h) := by
  intro q
  induction q with
  | zero =>
    intro y0 y1 y2 h e
    exact e
  | succ q ih =>
    intro y0 y1 y2 h e
    exact (EQ_if e (ih _ _ _ _ (EQ_s rfl e)))
theorem frD_FJ7_fill_53178_k19 {h0 : ph_H} (a1 : Int32) (h : ph_H) (e : EQ pD h0 h) : EQ pD h0 (FJ7_fill_53178_k19 a1 h) := (frD_FJ7_fill_53178_k19_5   _ _ _ _ _ e)
theorem frD_FX3_begin_st_52 {h0 : ph_H} (x2 : Int32) (h : ph_H) (e : EQ pD h0 h) : EQ pD h0 (FX3_begin_st_52 x2 h) := (EQ_s rfl (EQ_s rfl (EQ_s rfl (EQ_s rfl e))))
theorem frD_FX3_begin_st_44 {h0 : ph_H} (x2 : Int32) (h : ph_H) (e : EQ pD h0 h) : EQ pD h0 (FX3_begin_st_44 x2 h) := (frD_FX3_begin_st_52 _  _ (frD_FJ7_fill_53178_k19 _  _ e))
theorem frD_FX3_begin_st_21 {h0 : ph_H} (x2 : Int32) (h : ph_H) (e : EQ pD h0 h) : EQ pD h0 (FX3_begin_st_21 x2 h) := (frD_FX3_begin_st_44 _  _ (frD_FJ7_fill_53178_k18 _  _ (EQ_c (fun _ => rfl) e)))
theorem frD_FX3_begin_st_13 {h0 : ph_H} (x2 : Int32) (h : ph_H) (e : EQ pD h0 h) : EQ pD h0 (FX3_begin_st_13 x2 h) := (frD_FX3_begin_st_21 _  _ (frD_FJ7_fill_53178_k17 _  _ e))
theorem frD_FX3_begin_st {h0 : ph_H} (a1 : Int32) (h : ph_H) (e : EQ pD h0 h) : EQ pD h0 (FX3_begin_st a1 h) := (frD_FX3_begin_st_13 _  _ (frD_FJ7_fill_53178_k16 _  _ e))
theorem frD_FX11_replay_s_33 {h0 : ph_H} (L3 : Int32 → Int32 → ph_H → ph_H) (x3 : Int32) (x4 : Int32) (s0 : Int32) (hL3 : ∀ (y0 : Int32) (y1 : Int32) (h : ph_H), EQ pD h0 h → EQ pD h0 (L3 y0 y1 h)) (h : ph_H) (e : EQ pD h0 h) : EQ pD h0 (FX11_replay_s_33 L3 x3 x4 s0 h) := (hL3 _ _ _ e)
theorem frD_FX11_replay_s_3 {h0 : ph_H}  : ∀ (q : Nat) (y0 : Int32) (y1 : Int32) (h : ph_H), EQ pD h0 h → EQ pD h0 (FX11_replay_s_3  q y0 y1 h) := by
  intro q
  induction q with
  | zero =>
    intro y0 y1 h e
    exact e
  | succ q ih =>
    intro y0 y1 h e
    exact (EQ_if e (EQ_if e (frD_FX11_replay_s_33 _ _ _ _ ih _ (frD_FX3_go_s _  _ e))))
theorem frD_FX11_replay_s {h0 : ph_H} (a1 : Int32) (a2 : Int32) (h : ph_H) (e : EQ pD h0 h) : EQ pD h0 (FX11_replay_s a1 a2 h) := (frD_FX11_replay_s_3   _ _ _ _ e)
theorem frD_FX11_seenBehind_44 {h0 : ph_H} (x1 : Int32) (h : ph_H) (e : EQ pD h0 h) : EQ pD h0 (FX11_seenBehind_44 x1 h) := (EQ_s rfl e)
theorem frD_FX11_seenBehind_31 {h0 : ph_H} (x1 : Int32) (h : ph_H) (e : EQ pD h0 h) : EQ pD h0 (FX11_seenBehind_31 x1 h) := (frD_FX11_seenBehind_44 _  _ (frD_FX11_replay_s _ _  _ e))
theorem frD_FX11_seenBehind_26 {h0 : ph_H} (x1 : Int32) (h : ph_H) (e : EQ pD h0 h) : EQ pD h0 (FX11_seenBehind_26 x1 h) := (frD_FX11_seenBehind_31 _  _ (EQ_s rfl e))
theorem frD_FX11_seenBehind {h0 : ph_H} (a0 : Int32) (h : ph_H) (e : EQ pD h0 h) : EQ pD h0 (FX11_seenBehind a0 h) := (EQ_if (frD_FX11_seenBehind_31 _  _ e) (frD_FX11_seenBehind_26 _  _ (frD_FX3_begin_st _  _ e)))
def pO (k i : Nat) : Bool := match k with
  | 25 => true
  | 26 => true
  | 27 => true
  | 28 => true
  | 29 => true
  | 30 => true
  | 31 => true
  | 32 => true
  | 33 => true
  | 34 => true
  | _ => false
theorem pO_57 (n i : Nat) : pO (57 + n) i = false := by
  unfold pO
  split <;> first | omega | rfl
theorem frO_FX3_hold_s {h0 : ph_H} (a0 : Int32) (a1 : Int32) (a2 : Int32) (h : ph_H) (e : EQ pO h0 h) : EQ pO h0 (FX3_hold_s a0 a1 a2 h).2 := (EQ_s rfl (EQ_s rfl e))
theorem frO_FX3_getCell_s {h0 : ph_H} (a0 : Int32) (a1 : Int32) (h : ph_H) (e : EQ pO h0 h) : EQ pO h0 (FX3_getCell_s a0 a1 h).2 := (frO_FX3_hold_s _ _ _  _ (EQ_s rfl e))
theorem frO_FX3_goTo_s {h0 : ph_H} (a0 : Int32) (h : ph_H) (e : EQ pO h0 h) : EQ pO h0 (FX3_goTo_s a0 h).2 := (EQ_s rfl e)
theorem frO_FX3_goUnless_s_25 {h0 : ph_H} (s0 : Int32) (h : ph_H) (e : EQ pO h0 h) : EQ pO h0 (FX3_goUnless_s_25 s0 h).2 := e
theorem frO_FX3_goUnless_s {h0 : ph_H} (a0 : Int32) (a1 : Int32) (h : ph_H) (e : EQ pO h0 h) : EQ pO h0 (FX3_goUnless_s a0 a1 h).2 := (EQ2_if (EQ2_if (frO_FX3_goUnless_s_25 _  _ (frO_FX3_goTo_s _  _ e)) e) e)
theorem frO_FX3_free_s {h0 : ph_H} (a0 : Int32) (h : ph_H) (e : EQ pO h0 h) : EQ pO h0 (FX3_free_s a0 h).2 := (EQ_s rfl (EQ_s rfl (EQ_s rfl e)))
theorem frO_FX3_leaveLock_s {h0 : ph_H} (a0 : Int32) (a1 : Int32) (h : ph_H) (e : EQ pO h0 h) : EQ pO h0 (FX3_leaveLock_s a0 a1 h).2 := (EQ2_if (EQ2_if (frO_FX3_free_s _  _ e) e) e)
theorem frO_FX3_lieDown_s {h0 : ph_H} (a0 : Int32) (a1 : Int32) (h : ph_H) (e : EQ pO h0 h) : EQ pO h0 (FX3_lieDown_s a0 a1 h).2 := (EQ2_if (EQ2_if (frO_FX3_free_s _  _ (EQ_s rfl (EQ_s rfl (EQ_s rfl e)))) e) e)
theorem frO_FX3_makeThing_s {h0 : ph_H} (a0 : Int32) (a1 : Int32) (a2 : Int32) (h : ph_H) (e : EQ pO h0 h) : EQ pO h0 (FX3_makeThing_s a0 a1 a2 h).2 := (EQ_s rfl (EQ_s rfl (EQ_s rfl (EQ_s rfl (EQ_s rfl (EQ_s rfl e))))))
theorem frO_FX3_makeLock_s_22 {h0 : ph_H} (s0 : Int32) (s1 : Int32) (h : ph_H) (e : EQ pO h0 h) : EQ pO h0 (FX3_makeLock_s_22 s0 s1 h).2 := (frO_FX3_makeThing_s _ _ _  _ e)
theorem frO_FX3_makeLock_s {h0 : ph_H} (a0 : Int32) (a1 : Int32) (h : ph_H) (e : EQ pO h0 h) : EQ pO h0 (FX3_makeLock_s a0 a1 h).2 := (EQ2_if (EQ2_if (frO_FX3_makeLock_s_22 _ _  _ e) (frO_FX3_makeLock_s_22 _ _  _ e)) e)
theorem frO_FX3_makeRow_s_44 {h0 : ph_H}  : ∀ (q : Nat) (y0 : Int32) (y1 : Int32) (y2 : Int32) (h : ph_H), EQ pO h0 h → EQ pO h0 (FX3_makeRow_s_44  q y0 y1 y2 h).2 := by
  intro q
  induction q with
  | zero =>
    intro y0 y1 y2 h e
    exact e
  | succ q ih =>
    intro y0 y1 y2 h e
    exact (EQ2_if (frO_FX3_makeThing_s _ _ _  _ e) (ih _ _ _ _ (EQ_s rfl e)))
theorem frO_FX3_makeRow_s {h0 : ph_H} (a0 : Int32) (a1 : Int32) (h : ph_H) (e : EQ pO h0 h) : EQ pO h0 (FX3_makeRow_s a0 a1 h).2 := (EQ2_if (EQ2_if (EQ2_if e (EQ2_if (frO_FX3_makeRow_s_44   _ _ _ _ _ e) e)) e) e)
theorem frO_FX3_putCell_s {h0 : ph_H} (a0 : Int32) (a1 : Int32) (h : ph_H) (e : EQ pO h0 h) : EQ pO h0 (FX3_putCell_s a0 a1 h).2 := (frO_FX3_hold_s _ _ _  _ (EQ_s rfl e))
theorem frO_FX3_readRow_s {h0 : ph_H} (a0 : Int32) (a1 : Int32) (a2 : Int32) (h : ph_H) (e : EQ pO h0 h) : EQ pO h0 (FX3_readRow_s a0 a1 a2 h).2 := (EQ2_if (EQ2_if (EQ2_if e (frO_FX3_hold_s _ _ _  _ (EQ_s rfl e))) e) e)
theorem frO_FX3_reckon_s_58 {h0 : ph_H} (x2 : Int32) (s0 : Int32) (h : ph_H) (e : EQ pO h0 h) : EQ pO h0 (FX3_reckon_s_58 x2 s0 h).2 := (frO_FX3_hold_s _ _ _  _ e)
theorem frO_FX3_reckon_s {h0 : ph_H} (a0 : Int32) (a1 : Int32) (a2 : Int32) (h : ph_H) (e : EQ pO h0 h) : EQ pO h0 (FX3_reckon_s a0 a1 a2 h).2 := (EQ2_if e (EQ2_if (frO_FX3_reckon_s_58 _ _  _ e) (EQ2_if (frO_FX3_reckon_s_58 _ _  _ e) (frO_FX3_reckon_s_58 _ _  _ e))))
theorem frO_FX3_startThread_s {h0 : ph_H} (a0 : Int32) (h : ph_H) (e : EQ pO h0 h) : EQ pO h0 (FX3_startThread_s a0 h).2 := (EQ2_if (EQ_s rfl (EQ_s rfl (EQ_s rfl e))) e)
theorem frO_FX3_takeInput_s {h0 : ph_H} (a0 : Int32) (h : ph_H) (e : EQ pO h0 h) : EQ pO h0 (FX3_takeInput_s a0 h).2 := (EQ2_if e (EQ2_if (frO_FX3_hold_s _ _ _  _ (EQ_s rfl e)) e))
theorem frO_FX3_own_s {h0 : ph_H} (a0 : Int32) (a1 : Int32) (h : ph_H) (e : EQ pO h0 h) : EQ pO h0 (FX3_own_s a0 a1 h).2 := (EQ_s rfl (EQ_s rfl (EQ_s rfl e)))
theorem frO_FX3_takeLock_s {h0 : ph_H} (a0 : Int32) (a1 : Int32) (h : ph_H) (e : EQ pO h0 h) : EQ pO h0 (FX3_takeLock_s a0 a1 h).2 := (EQ2_if (EQ2_if e (frO_FX3_own_s _ _  _ e)) e)
theorem frO_FX3_wakeSleepers_s_64 {h0 : ph_H} (L28 : Int32 → Int32 → ph_H → Int32 × ph_H) (x3 : Int32) (x4 : Int32) (hL28 : ∀ (y0 : Int32) (y1 : Int32) (h : ph_H), EQ pO h0 h → EQ pO h0 (L28 y0 y1 h).2) (h : ph_H) (e : EQ pO h0 h) : EQ pO h0 (FX3_wakeSleepers_s_64 L28 x3 x4 h).2 := (hL28 _ _ _ e)
theorem frO_FX3_wakeSleepers_s_28 {h0 : ph_H}  : ∀ (q : Nat) (y0 : Int32) (y1 : Int32) (h : ph_H), EQ pO h0 h → EQ pO h0 (FX3_wakeSleepers_s_28  q y0 y1 h).2 := by
  intro q
  induction q with
  | zero =>
    intro y0 y1 h e
    exact e
  | succ q ih =>
    intro y0 y1 h e
    exact (EQ2_if (EQ_s rfl e) (EQ2_if (EQ2_if (frO_FX3_wakeSleepers_s_64 _ _ _ ih _ (EQ_s rfl e)) (frO_FX3_wakeSleepers_s_64 _ _ _ ih _ e)) (frO_FX3_wakeSleepers_s_64 _ _ _ ih _ e)))
theorem frO_FX3_wakeSleepers_s {h0 : ph_H} (a0 : Int32) (a1 : Int32) (h : ph_H) (e : EQ pO h0 h) : EQ pO h0 (FX3_wakeSleepers_s a0 a1 h).2 := (EQ2_if (EQ2_if (frO_FX3_wakeSleepers_s_28   _ _ _ _ e) e) e)
theorem frO_FX3_writeRow_s {h0 : ph_H} (a0 : Int32) (a1 : Int32) (a2 : Int32) (h : ph_H) (e : EQ pO h0 h) : EQ pO h0 (FX3_writeRow_s a0 a1 a2 h).2 := (EQ2_if (EQ2_if e (EQ2_if e (EQ_s rfl (EQ_s rfl e)))) e)
theorem frO_FX3_perform_s_288 {h0 : ph_H} (s0 : Int32) (s1 : Int32) (h : ph_H) (e : EQ pO h0 h) : EQ pO h0 (FX3_perform_s_288 s0 s1 h).2 := (frO_FX3_makeLock_s _ _  _ e)
theorem frO_FX3_perform_s {h0 : ph_H} (a0 : Int32) (h : ph_H) (e : EQ pO h0 h) : EQ pO h0 (FX3_perform_s a0 h).2 := (EQ2_if (frO_FX3_hold_s _ _ _  _ e) (EQ2_if (frO_FX3_getCell_s _ _  _ e) (EQ2_if (frO_FX3_putCell_s _ _  _ e) (EQ2_if (frO_FX3_reckon_s _ _ _  _ e) (EQ2_if (frO_FX3_reckon_s _ _ _  _ e) (EQ2_if (frO_FX3_reckon_s _ _ _  _ e) (EQ2_if (frO_FX3_goTo_s _  _ e) (EQ2_if (frO_FX3_goUnless_s _ _  _ e) (EQ2_if (frO_FX3_makeRow_s _ _  _ e) (EQ2_if (frO_FX3_readRow_s _ _ _  _ e) (EQ2_if (frO_FX3_writeRow_s _ _ _  _ e) (EQ2_if (EQ2_if (frO_FX3_perform_s_288 _ _  _ e) (frO_FX3_perform_s_288 _ _  _ e)) (EQ2_if (frO_FX3_takeLock_s _ _  _ e) (EQ2_if (frO_FX3_leaveLock_s _ _  _ e) (EQ2_if (frO_FX3_lieDown_s _ _  _ e) (EQ2_if (frO_FX3_wakeSleepers_s _ _  _ e) (EQ2_if (frO_FX3_takeInput_s _  _ e) (EQ2_if (frO_FX3_startThread_s _  _ e) (EQ2_if e (frO_FX3_goTo_s _  _ e))))))))))))))))))))
theorem frO_FX3_rise_s {h0 : ph_H} (a0 : Int32) (h : ph_H) (e : EQ pO h0 h) : EQ pO h0 (FX3_rise_s a0 h).2 := (frO_FX3_own_s _ _  _ (EQ_s rfl e))
theorem frO_FX3_go_s_67 {h0 : ph_H} (x1 : Int32) (s0 : Int32) (h : ph_H) (e : EQ pO h0 h) : EQ pO h0 (FX3_go_s_67 x1 s0 h).2 := (EQ2_if (EQ_s rfl e) e)
theorem frO_FX3_go_s_59 {h0 : ph_H} (x1 : Int32) (s0 : Int32) (h : ph_H) (e : EQ pO h0 h) : EQ pO h0 (FX3_go_s_59 x1 s0 h).2 := (frO_FX3_go_s_67 _ _  _ e)
theorem frO_FX3_go_s {h0 : ph_H} (a0 : Int32) (h : ph_H) (e : EQ pO h0 h) : EQ pO h0 (FX3_go_s a0 h).2 := (EQ2_if e (EQ2_if (frO_FX3_go_s_59 _ _  _ (frO_FX3_rise_s _  _ (EQ_s rfl (EQ_s rfl (EQ_s rfl (EQ_s rfl (EQ_s rfl e))))))) (frO_FX3_go_s_67 _ _  _ (frO_FX3_perform_s _  _ (EQ_s rfl (EQ_s rfl (EQ_s rfl (EQ_s rfl (EQ_s rfl e)))))))))
theorem frO_FJ7_fill_53178_k16_5 {h0 : ph_H}  : ∀ (q : Nat) (y0 : Int32) (y1 : Int32) (y2 : Int32) (h : ph_H), EQ pO h0 h → EQ pO h0 (FJ7_fill_53178_k16_5  q y0 y1 y2 h) := by
  intro q
  induction q with
  | zero =>
    intro y0 y1 y2 h e
    exact e
  | succ q ih =>
    intro y0 y1 y2 h e
    exact (EQ_if e (ih _ _ _ _ (EQ_s rfl e)))
theorem frO_FJ7_fill_53178_k16 {h0 : ph_H} (a1 : Int32) (h : ph_H) (e : EQ pO h0 h) : EQ pO h0 (FJ7_fill_53178_k16 a1 h) := (frO_FJ7_fill_53178_k16_5   _ _ _ _ _ e)
theorem frO_FJ7_fill_53178_k17_5 {h0 : ph_H}  : ∀ (q : Nat) (y0 : Int32) (y1 : Int32) (y2 : Int32) (h : ph_H), EQ pO h0 h → EQ pO h0 (FJ7_fill_53178_k17_5  q y0 y1 y2 h) := by
  intro q
  induction q with
  | zero =>
    intro y0 y1 y2 h e
    exact e
  | succ q ih =>
    intro y0 y1 y2 h e
    exact (EQ_if e (ih _ _ _ _ (EQ_s rfl e)))
theorem frO_FJ7_fill_53178_k17 {h0 : ph_H} (a1 : Int32) (h : ph_H) (e : EQ pO h0 h) : EQ pO h0 (FJ7_fill_53178_k17 a1 h) := (frO_FJ7_fill_53178_k17_5   _ _ _ _ _ e)
theorem frO_FJ7_fill_53178_k18_5 {h0 : ph_H}  : ∀ (q : Nat) (y0 : Int32) (y1 : Int32) (y2 : Int32) (h : ph_H), EQ pO h0 h → EQ pO h0 (FJ7_fill_53178_k18_5  q y0 y1 y2 h) := by
  intro q
  induction q with
  | zero =>
    intro y0 y1 y2 h e
    exact e
  | succ q ih =>
    intro y0 y1 y2 h e
    exact (EQ_if e (ih _ _ _ _ (EQ_s rfl e)))
theorem frO_FJ7_fill_53178_k18 {h0 : ph_H} (a1 : Int32) (h : ph_H) (e : EQ pO h0 h) : EQ pO h0 (FJ7_fill_53178_k18 a1 h) := (frO_FJ7_fill_53178_k18_5   _ _ _ _ _ e)
theorem frO_FJ7_fill_53178_k19_5 {h0 : ph_H}  : ∀ (q : Nat) (y0 : Int32) (y1 : Int32) (y2 : Int32) (h : ph_H), EQ pO h0 h → EQ pO h0 (FJ7_fill_53178_k19_5  q y0 y1 y2 h) := by
  intro q
  induction q with
  | zero =>
    intro y0 y1 y2 h e
    exact e
  | succ q ih =>
    intro y0 y1 y2 h e
    exact (EQ_if e (ih _ _ _ _ (EQ_s rfl e)))
theorem frO_FJ7_fill_53178_k19 {h0 : ph_H} (a1 : Int32) (h : ph_H) (e : EQ pO h0 h) : EQ pO h0 (FJ7_fill_53178_k19 a1 h) := (frO_FJ7_fill_53178_k19_5   _ _ _ _ _ e)
theorem frO_FX3_begin_st_52 {h0 : ph_H} (x2 : Int32) (h : ph_H) (e : EQ pO h0 h) : EQ pO h0 (FX3_begin_st_52 x2 h) := (EQ_s rfl (EQ_s rfl (EQ_s rfl (EQ_s rfl e))))
theorem frO_FX3_begin_st_44 {h0 : ph_H} (x2 : Int32) (h : ph_H) (e : EQ pO h0 h) : EQ pO h0 (FX3_begin_st_44 x2 h) := (frO_FX3_begin_st_52 _  _ (frO_FJ7_fill_53178_k19 _  _ e))
theorem frO_FX3_begin_st_21 {h0 : ph_H} (x2 : Int32) (h : ph_H) (e : EQ pO h0 h) : EQ pO h0 (FX3_begin_st_21 x2 h) := (frO_FX3_begin_st_44 _  _ (frO_FJ7_fill_53178_k18 _  _ (EQ_c (fun _ => rfl) e)))
theorem frO_FX3_begin_st_13 {h0 : ph_H} (x2 : Int32) (h : ph_H) (e : EQ pO h0 h) : EQ pO h0 (FX3_begin_st_13 x2 h) := (frO_FX3_begin_st_21 _  _ (frO_FJ7_fill_53178_k17 _  _ e))
theorem frO_FX3_begin_st {h0 : ph_H} (a1 : Int32) (h : ph_H) (e : EQ pO h0 h) : EQ pO h0 (FX3_begin_st a1 h) := (frO_FX3_begin_st_13 _  _ (frO_FJ7_fill_53178_k16 _  _ e))
theorem frO_FX11_replay_s_33 {h0 : ph_H} (L3 : Int32 → Int32 → ph_H → ph_H) (x3 : Int32) (x4 : Int32) (s0 : Int32) (hL3 : ∀ (y0 : Int32) (y1 : Int32) (h : ph_H), EQ pO h0 h → EQ pO h0 (L3 y0 y1 h)) (h : ph_H) (e : EQ pO h0 h) : EQ pO h0 (FX11_replay_s_33 L3 x3 x4 s0 h) := (hL3 _ _ _ e)
theorem frO_FX11_replay_s_3 {h0 : ph_H}  : ∀ (q : Nat) (y0 : Int32) (y1 : Int32) (h : ph_H), EQ pO h0 h → EQ pO h0 (FX11_replay_s_3  q y0 y1 h) := by
  intro q
  induction q with
  | zero =>
    intro y0 y1 h e
    exact e
  | succ q ih =>
    intro y0 y1 h e
    exact (EQ_if e (EQ_if e (frO_FX11_replay_s_33 _ _ _ _ ih _ (frO_FX3_go_s _  _ e))))
theorem frO_FX11_replay_s {h0 : ph_H} (a1 : Int32) (a2 : Int32) (h : ph_H) (e : EQ pO h0 h) : EQ pO h0 (FX11_replay_s a1 a2 h) := (frO_FX11_replay_s_3   _ _ _ _ e)
theorem frO_FX11_seenBehind_44 {h0 : ph_H} (x1 : Int32) (h : ph_H) (e : EQ pO h0 h) : EQ pO h0 (FX11_seenBehind_44 x1 h) := (EQ_s rfl e)
theorem frO_FX11_seenBehind_31 {h0 : ph_H} (x1 : Int32) (h : ph_H) (e : EQ pO h0 h) : EQ pO h0 (FX11_seenBehind_31 x1 h) := (frO_FX11_seenBehind_44 _  _ (frO_FX11_replay_s _ _  _ e))
theorem frO_FX11_seenBehind_26 {h0 : ph_H} (x1 : Int32) (h : ph_H) (e : EQ pO h0 h) : EQ pO h0 (FX11_seenBehind_26 x1 h) := (frO_FX11_seenBehind_31 _  _ (EQ_s rfl e))
theorem frO_FX11_seenBehind {h0 : ph_H} (a0 : Int32) (h : ph_H) (e : EQ pO h0 h) : EQ pO h0 (FX11_seenBehind a0 h) := (EQ_if (frO_FX11_seenBehind_31 _  _ e) (frO_FX11_seenBehind_26 _  _ (frO_FX3_begin_st _  _ e)))
def pN (k i : Nat) : Bool := match k with
  | 0 => i == 12
  | 1 => i == 6 || i == 7
  | 2 => true
  | 3 => true
  | 4 => true
  | 5 => true
  | 6 => true
  | 7 => true
  | 52 => i == 6 || i == 8 || i == 9 || i == 10
  | 54 => true
  | 55 => true
  | _ => false
theorem pN_57 (n i : Nat) : pN (57 + n) i = false := by
  unfold pN
  split <;> first | omega | rfl
theorem frN_FX10_noteChange {h0 : ph_H} (a0 : Int32) (h : ph_H) (e : EQ pN h0 h) : EQ pN h0 (FX10_noteChange a0 h) := (EQ_if e (EQ_s rfl (EQ_s rfl (EQ_s rfl e))))
theorem frN_FX10_noteEffects_s_68 {h0 : ph_H}  (h : ph_H) (e : EQ pN h0 h) : EQ pN h0 (FX10_noteEffects_s_68 h) := (EQ_s rfl (EQ_s rfl e))
theorem frN_FX10_noteEffects_s {h0 : ph_H}  (h : ph_H) (e : EQ pN h0 h) : EQ pN h0 (FX10_noteEffects_s h) := (EQ_if (frN_FX10_noteEffects_s_68   _ (EQ_s rfl (EQ_s rfl e))) (EQ_if (frN_FX10_noteEffects_s_68   _ (EQ_s rfl (EQ_s rfl e))) (frN_FX10_noteEffects_s_68   _ (EQ_s rfl (EQ_s rfl (EQ_s rfl (EQ_s rfl e)))))))
theorem frN_FX3_hold_s {h0 : ph_H} (a0 : Int32) (a1 : Int32) (a2 : Int32) (h : ph_H) (e : EQ pN h0 h) : EQ pN h0 (FX3_hold_s a0 a1 a2 h).2 := (EQ_s rfl (EQ_s rfl e))
theorem frN_FX3_getCell_s {h0 : ph_H} (a0 : Int32) (a1 : Int32) (h : ph_H) (e : EQ pN h0 h) : EQ pN h0 (FX3_getCell_s a0 a1 h).2 := (frN_FX3_hold_s _ _ _  _ (EQ_s rfl e))
theorem frN_FX3_goTo_s {h0 : ph_H} (a0 : Int32) (h : ph_H) (e : EQ pN h0 h) : EQ pN h0 (FX3_goTo_s a0 h).2 := (EQ_s rfl e)
theorem frN_FX3_goUnless_s_25 {h0 : ph_H} (s0 : Int32) (h : ph_H) (e : EQ pN h0 h) : EQ pN h0 (FX3_goUnless_s_25 s0 h).2 := e
theorem frN_FX3_goUnless_s {h0 : ph_H} (a0 : Int32) (a1 : Int32) (h : ph_H) (e : EQ pN h0 h) : EQ pN h0 (FX3_goUnless_s a0 a1 h).2 := (EQ2_if (EQ2_if (frN_FX3_goUnless_s_25 _  _ (frN_FX3_goTo_s _  _ e)) e) e)
theorem frN_FX3_free_s {h0 : ph_H} (a0 : Int32) (h : ph_H) (e : EQ pN h0 h) : EQ pN h0 (FX3_free_s a0 h).2 := (EQ_s rfl (EQ_s rfl (EQ_s rfl e)))
theorem frN_FX3_leaveLock_s {h0 : ph_H} (a0 : Int32) (a1 : Int32) (h : ph_H) (e : EQ pN h0 h) : EQ pN h0 (FX3_leaveLock_s a0 a1 h).2 := (EQ2_if (EQ2_if (frN_FX3_free_s _  _ e) e) e)
theorem frN_FX3_lieDown_s {h0 : ph_H} (a0 : Int32) (a1 : Int32) (h : ph_H) (e : EQ pN h0 h) : EQ pN h0 (FX3_lieDown_s a0 a1 h).2 := (EQ2_if (EQ2_if (frN_FX3_free_s _  _ (EQ_s rfl (EQ_s rfl (EQ_s rfl e)))) e) e)
theorem frN_FX3_makeThing_s {h0 : ph_H} (a0 : Int32) (a1 : Int32) (a2 : Int32) (h : ph_H) (e : EQ pN h0 h) : EQ pN h0 (FX3_makeThing_s a0 a1 a2 h).2 := (EQ_s rfl (EQ_s rfl (EQ_s rfl (EQ_s rfl (EQ_s rfl (EQ_s rfl e))))))
theorem frN_FX3_makeLock_s_22 {h0 : ph_H} (s0 : Int32) (s1 : Int32) (h : ph_H) (e : EQ pN h0 h) : EQ pN h0 (FX3_makeLock_s_22 s0 s1 h).2 := (frN_FX3_makeThing_s _ _ _  _ e)
theorem frN_FX3_makeLock_s {h0 : ph_H} (a0 : Int32) (a1 : Int32) (h : ph_H) (e : EQ pN h0 h) : EQ pN h0 (FX3_makeLock_s a0 a1 h).2 := (EQ2_if (EQ2_if (frN_FX3_makeLock_s_22 _ _  _ e) (frN_FX3_makeLock_s_22 _ _  _ e)) e)
theorem frN_FX3_makeRow_s_44 {h0 : ph_H}  : ∀ (q : Nat) (y0 : Int32) (y1 : Int32) (y2 : Int32) (h : ph_H), EQ pN h0 h → EQ pN h0 (FX3_makeRow_s_44  q y0 y1 y2 h).2 := by
  intro q
  induction q with
  | zero =>
    intro y0 y1 y2 h e
    exact e
  | succ q ih =>
    intro y0 y1 y2 h e
    exact (EQ2_if (frN_FX3_makeThing_s _ _ _  _ e) (ih _ _ _ _ (EQ_s rfl e)))
theorem frN_FX3_makeRow_s {h0 : ph_H} (a0 : Int32) (a1 : Int32) (h : ph_H) (e : EQ pN h0 h) : EQ pN h0 (FX3_makeRow_s a0 a1 h).2 := (EQ2_if (EQ2_if (EQ2_if e (EQ2_if (frN_FX3_makeRow_s_44   _ _ _ _ _ e) e)) e) e)
theorem frN_FX3_putCell_s {h0 : ph_H} (a0 : Int32) (a1 : Int32) (h : ph_H) (e : EQ pN h0 h) : EQ pN h0 (FX3_putCell_s a0 a1 h).2 := (frN_FX3_hold_s _ _ _  _ (EQ_s rfl e))
theorem frN_FX3_readRow_s {h0 : ph_H} (a0 : Int32) (a1 : Int32) (a2 : Int32) (h : ph_H) (e : EQ pN h0 h) : EQ pN h0 (FX3_readRow_s a0 a1 a2 h).2 := (EQ2_if (EQ2_if (EQ2_if e (frN_FX3_hold_s _ _ _  _ (EQ_s rfl e))) e) e)
theorem frN_FX3_reckon_s_58 {h0 : ph_H} (x2 : Int32) (s0 : Int32) (h : ph_H) (e : EQ pN h0 h) : EQ pN h0 (FX3_reckon_s_58 x2 s0 h).2 := (frN_FX3_hold_s _ _ _  _ e)
theorem frN_FX3_reckon_s {h0 : ph_H} (a0 : Int32) (a1 : Int32) (a2 : Int32) (h : ph_H) (e : EQ pN h0 h) : EQ pN h0 (FX3_reckon_s a0 a1 a2 h).2 := (EQ2_if e (EQ2_if (frN_FX3_reckon_s_58 _ _  _ e) (EQ2_if (frN_FX3_reckon_s_58 _ _  _ e) (frN_FX3_reckon_s_58 _ _  _ e))))
theorem frN_FX3_startThread_s {h0 : ph_H} (a0 : Int32) (h : ph_H) (e : EQ pN h0 h) : EQ pN h0 (FX3_startThread_s a0 h).2 := (EQ2_if (EQ_s rfl (EQ_s rfl (EQ_s rfl e))) e)
theorem frN_FX3_takeInput_s {h0 : ph_H} (a0 : Int32) (h : ph_H) (e : EQ pN h0 h) : EQ pN h0 (FX3_takeInput_s a0 h).2 := (EQ2_if e (EQ2_if (frN_FX3_hold_s _ _ _  _ (EQ_s rfl e)) e))
theorem frN_FX3_own_s {h0 : ph_H} (a0 : Int32) (a1 : Int32) (h : ph_H) (e : EQ pN h0 h) : EQ pN h0 (FX3_own_s a0 a1 h).2 := (EQ_s rfl (EQ_s rfl (EQ_s rfl e)))
theorem frN_FX3_takeLock_s {h0 : ph_H} (a0 : Int32) (a1 : Int32) (h : ph_H) (e : EQ pN h0 h) : EQ pN h0 (FX3_takeLock_s a0 a1 h).2 := (EQ2_if (EQ2_if e (frN_FX3_own_s _ _  _ e)) e)
theorem frN_FX3_wakeSleepers_s_64 {h0 : ph_H} (L28 : Int32 → Int32 → ph_H → Int32 × ph_H) (x3 : Int32) (x4 : Int32) (hL28 : ∀ (y0 : Int32) (y1 : Int32) (h : ph_H), EQ pN h0 h → EQ pN h0 (L28 y0 y1 h).2) (h : ph_H) (e : EQ pN h0 h) : EQ pN h0 (FX3_wakeSleepers_s_64 L28 x3 x4 h).2 := (hL28 _ _ _ e)
theorem frN_FX3_wakeSleepers_s_28 {h0 : ph_H}  : ∀ (q : Nat) (y0 : Int32) (y1 : Int32) (h : ph_H), EQ pN h0 h → EQ pN h0 (FX3_wakeSleepers_s_28  q y0 y1 h).2 := by
  intro q
  induction q with
  | zero =>
    intro y0 y1 h e
    exact e
  | succ q ih =>
    intro y0 y1 h e
    exact (EQ2_if (EQ_s rfl e) (EQ2_if (EQ2_if (frN_FX3_wakeSleepers_s_64 _ _ _ ih _ (EQ_s rfl e)) (frN_FX3_wakeSleepers_s_64 _ _ _ ih _ e)) (frN_FX3_wakeSleepers_s_64 _ _ _ ih _ e)))
theorem frN_FX3_wakeSleepers_s {h0 : ph_H} (a0 : Int32) (a1 : Int32) (h : ph_H) (e : EQ pN h0 h) : EQ pN h0 (FX3_wakeSleepers_s a0 a1 h).2 := (EQ2_if (EQ2_if (frN_FX3_wakeSleepers_s_28   _ _ _ _ e) e) e)
theorem frN_FX3_writeRow_s {h0 : ph_H} (a0 : Int32) (a1 : Int32) (a2 : Int32) (h : ph_H) (e : EQ pN h0 h) : EQ pN h0 (FX3_writeRow_s a0 a1 a2 h).2 := (EQ2_if (EQ2_if e (EQ2_if e (EQ_s rfl (EQ_s rfl e)))) e)
theorem frN_FX3_perform_s_288 {h0 : ph_H} (s0 : Int32) (s1 : Int32) (h : ph_H) (e : EQ pN h0 h) : EQ pN h0 (FX3_perform_s_288 s0 s1 h).2 := (frN_FX3_makeLock_s _ _  _ e)
theorem frN_FX3_perform_s {h0 : ph_H} (a0 : Int32) (h : ph_H) (e : EQ pN h0 h) : EQ pN h0 (FX3_perform_s a0 h).2 := (EQ2_if (frN_FX3_hold_s _ _ _  _ e) (EQ2_if (frN_FX3_getCell_s _ _  _ e) (EQ2_if (frN_FX3_putCell_s _ _  _ e) (EQ2_if (frN_FX3_reckon_s _ _ _  _ e) (EQ2_if (frN_FX3_reckon_s _ _ _  _ e) (EQ2_if (frN_FX3_reckon_s _ _ _  _ e) (EQ2_if (frN_FX3_goTo_s _  _ e) (EQ2_if (frN_FX3_goUnless_s _ _  _ e) (EQ2_if (frN_FX3_makeRow_s _ _  _ e) (EQ2_if (frN_FX3_readRow_s _ _ _  _ e) (EQ2_if (frN_FX3_writeRow_s _ _ _  _ e) (EQ2_if (EQ2_if (frN_FX3_perform_s_288 _ _  _ e) (frN_FX3_perform_s_288 _ _  _ e)) (EQ2_if (frN_FX3_takeLock_s _ _  _ e) (EQ2_if (frN_FX3_leaveLock_s _ _  _ e) (EQ2_if (frN_FX3_lieDown_s _ _  _ e) (EQ2_if (frN_FX3_wakeSleepers_s _ _  _ e) (EQ2_if (frN_FX3_takeInput_s _  _ e) (EQ2_if (frN_FX3_startThread_s _  _ e) (EQ2_if e (frN_FX3_goTo_s _  _ e))))))))))))))))))))
theorem frN_FX3_rise_s {h0 : ph_H} (a0 : Int32) (h : ph_H) (e : EQ pN h0 h) : EQ pN h0 (FX3_rise_s a0 h).2 := (frN_FX3_own_s _ _  _ (EQ_s rfl e))
theorem frN_FX3_go_s_67 {h0 : ph_H} (x1 : Int32) (s0 : Int32) (h : ph_H) (e : EQ pN h0 h) : EQ pN h0 (FX3_go_s_67 x1 s0 h).2 := (EQ2_if (EQ_s rfl e) e)
theorem frN_FX3_go_s_59 {h0 : ph_H} (x1 : Int32) (s0 : Int32) (h : ph_H) (e : EQ pN h0 h) : EQ pN h0 (FX3_go_s_59 x1 s0 h).2 := (frN_FX3_go_s_67 _ _  _ e)
theorem frN_FX3_go_s {h0 : ph_H} (a0 : Int32) (h : ph_H) (e : EQ pN h0 h) : EQ pN h0 (FX3_go_s a0 h).2 := (EQ2_if e (EQ2_if (frN_FX3_go_s_59 _ _  _ (frN_FX3_rise_s _  _ (EQ_s rfl (EQ_s rfl (EQ_s rfl (EQ_s rfl (EQ_s rfl e))))))) (frN_FX3_go_s_67 _ _  _ (frN_FX3_perform_s _  _ (EQ_s rfl (EQ_s rfl (EQ_s rfl (EQ_s rfl (EQ_s rfl e)))))))))
theorem frN_FX10_advance_s_51 {h0 : ph_H} (x2 : Int32) (x3 : Int32) (h : ph_H) (e : EQ pN h0 h) : EQ pN h0 (FX10_advance_s_51 x2 x3 h).2 := (frN_FX10_noteEffects_s   _ (EQ_s rfl (EQ_s rfl (EQ_s rfl (EQ_s rfl e)))))
theorem frN_FX10_advance_s_30 {h0 : ph_H} (x2 : Int32) (x3 : Int32) (s0 : Int32) (h : ph_H) (e : EQ pN h0 h) : EQ pN h0 (FX10_advance_s_30 x2 x3 s0 h).2 := (EQ2_if e (frN_FX10_advance_s_51 _ _  _ (frN_FX10_noteChange _  _ (EQ_s rfl e))))
theorem frN_FX10_advance_s {h0 : ph_H} (a1 : Int32) (h : ph_H) (e : EQ pN h0 h) : EQ pN h0 (FX10_advance_s a1 h).2 := (EQ2_if (EQ2_if (frN_FX10_advance_s_30 _ _ _  _ (frN_FX3_go_s _  _ e)) e) e)
theorem frN_FX10_goOn_s_45 {h0 : ph_H} (L4 : Int32 → Int32 → ph_H → ph_H) (x3 : Int32) (s0 : Int32) (hL4 : ∀ (y0 : Int32) (y1 : Int32) (h : ph_H), EQ pN h0 h → EQ pN h0 (L4 y0 y1 h)) (h : ph_H) (e : EQ pN h0 h) : EQ pN h0 (FX10_goOn_s_45 L4 x3 s0 h) := (hL4 _ _ _ e)
theorem frN_FX10_goOn_s_44 {h0 : ph_H} (L4 : Int32 → Int32 → ph_H → ph_H) (x3 : Int32) (hL4 : ∀ (y0 : Int32) (y1 : Int32) (h : ph_H), EQ pN h0 h → EQ pN h0 (L4 y0 y1 h)) (h : ph_H) (e : EQ pN h0 h) : EQ pN h0 (FX10_goOn_s_44 L4 x3 h) := (frN_FX10_goOn_s_45 _ _ _ hL4 _ e)
theorem frN_FX10_goOn_s_37 {h0 : ph_H} (L4 : Int32 → Int32 → ph_H → ph_H) (x3 : Int32) (s0 : Int32) (hL4 : ∀ (y0 : Int32) (y1 : Int32) (h : ph_H), EQ pN h0 h → EQ pN h0 (L4 y0 y1 h)) (h : ph_H) (e : EQ pN h0 h) : EQ pN h0 (FX10_goOn_s_37 L4 x3 s0 h) := (EQ_if (frN_FX10_goOn_s_44 _ _ hL4 _ e) (frN_FX10_goOn_s_45 _ _ _ hL4 _ e))
theorem frN_FX10_goOn_s_4 {h0 : ph_H}  : ∀ (q : Nat) (y0 : Int32) (y1 : Int32) (h : ph_H), EQ pN h0 h → EQ pN h0 (FX10_goOn_s_4  q y0 y1 h) := by
  intro q
  induction q with
  | zero =>
    intro y0 y1 h e
    exact e
  | succ q ih =>
    intro y0 y1 h e
    exact (EQ_if e (EQ_if e (EQ_if (frN_FX10_goOn_s_44 _ _ ih _ e) (frN_FX10_goOn_s_37 _ _ _ ih _ (frN_FX10_advance_s _  _ e)))))
theorem frN_FX10_goOn_s {h0 : ph_H}  (h : ph_H) (e : EQ pN h0 h) : EQ pN h0 (FX10_goOn_s h) := (frN_FX10_goOn_s_4   _ _ _ _ e)
theorem frN_FX10_takeTurns_st_53 {h0 : ph_H} (L2 : Int32 → ph_H → ph_H) (L30 : Int32 → Int32 → Int32 → Int32 → ph_H → ph_H) (x3 : Int32) (x4 : Int32) (x6 : Int32) (s0 : Int32) (hL2 : ∀ (y0 : Int32) (h : ph_H), EQ pN h0 h → EQ pN h0 (L2 y0 h)) (hL30 : ∀ (y0 : Int32) (y1 : Int32) (y2 : Int32) (y3 : Int32) (h : ph_H), EQ pN h0 h → EQ pN h0 (L30 y0 y1 y2 y3 h)) (h : ph_H) (e : EQ pN h0 h) : EQ pN h0 (FX10_takeTurns_st_53 L2 L30 x3 x4 x6 s0 h) := (hL30 _ _ _ _ _ e)
theorem frN_FX10_takeTurns_st_61 {h0 : ph_H} (L2 : Int32 → ph_H → ph_H) (x3 : Int32) (hL2 : ∀ (y0 : Int32) (h : ph_H), EQ pN h0 h → EQ pN h0 (L2 y0 h)) (h : ph_H) (e : EQ pN h0 h) : EQ pN h0 (FX10_takeTurns_st_61 L2 x3 h) := (hL2 _ _ e)
theorem frN_FX10_takeTurns_st_30 {h0 : ph_H} (L2 : Int32 → ph_H → ph_H) (hL2 : ∀ (y0 : Int32) (h : ph_H), EQ pN h0 h → EQ pN h0 (L2 y0 h)) : ∀ (q : Nat) (y0 : Int32) (y1 : Int32) (y2 : Int32) (y3 : Int32) (h : ph_H), EQ pN h0 h → EQ pN h0 (FX10_takeTurns_st_30 L2 q y0 y1 y2 y3 h) := by
  intro q
  induction q with
  | zero =>
    intro y0 y1 y2 y3 h e
    exact e
  | succ q ih =>
    intro y0 y1 y2 y3 h e
    exact (EQ_if (frN_FX10_takeTurns_st_61 _ _ hL2 _ e) (EQ_if (frN_FX10_takeTurns_st_61 _ _ hL2 _ e) (frN_FX10_takeTurns_st_53 _ _ _ _ _ _ hL2 ih _ (frN_FX10_advance_s _  _ e))))
theorem frN_FX10_takeTurns_st_2 {h0 : ph_H}  : ∀ (q : Nat) (y0 : Int32) (h : ph_H), EQ pN h0 h → EQ pN h0 (FX10_takeTurns_st_2  q y0 h) := by
  intro q
  induction q with
  | zero =>
    intro y0 h e
    exact e
  | succ q ih =>
    intro y0 h e
    exact (EQ_if e (EQ_if e (frN_FX10_takeTurns_st_30 _ ih _ _ _ _ _ _ e)))
theorem frN_FX10_takeTurns_st {h0 : ph_H}  (h : ph_H) (e : EQ pN h0 h) : EQ pN h0 (FX10_takeTurns_st h) := (frN_FX10_takeTurns_st_2   _ _ _ e)
theorem frN_FX10_record_s_29 {h0 : ph_H}  (h : ph_H) (e : EQ pN h0 h) : EQ pN h0 (FX10_record_s_29 h) := (EQ_s rfl (EQ_s rfl (EQ_s rfl e)))
theorem frN_FX10_record_s_24 {h0 : ph_H}  (h : ph_H) (e : EQ pN h0 h) : EQ pN h0 (FX10_record_s_24 h) := (frN_FX10_record_s_29   _ (frN_FX10_goOn_s   _ e))
theorem frN_FX10_record_s {h0 : ph_H}  (h : ph_H) (e : EQ pN h0 h) : EQ pN h0 (FX10_record_s h) := (frN_FX10_record_s_24   _ (frN_FX10_takeTurns_st   _ (EQ_s rfl (EQ_s rfl (EQ_s rfl e)))))
theorem frN_FJ7_fill_53178_k16_5 {h0 : ph_H}  : ∀ (q : Nat) (y0 : Int32) (y1 : Int32) (y2 : Int32) (h : ph_H), EQ pN h0 h → EQ pN h0 (FJ7_fill_53178_k16_5  q y0 y1 y2 h) := by
  intro q
  induction q with
  | zero =>
    intro y0 y1 y2 h e
    exact e
  | succ q ih =>
    intro y0 y1 y2 h e
    exact (EQ_if e (ih _ _ _ _ (EQ_s rfl e)))
theorem frN_FJ7_fill_53178_k16 {h0 : ph_H} (a1 : Int32) (h : ph_H) (e : EQ pN h0 h) : EQ pN h0 (FJ7_fill_53178_k16 a1 h) := (frN_FJ7_fill_53178_k16_5   _ _ _ _ _ e)
theorem frN_FJ7_fill_53178_k17_5 {h0 : ph_H}  : ∀ (q : Nat) (y0 : Int32) (y1 : Int32) (y2 : Int32) (h : ph_H), EQ pN h0 h → EQ pN h0 (FJ7_fill_53178_k17_5  q y0 y1 y2 h) := by
  intro q
  induction q with
  | zero =>
    intro y0 y1 y2 h e
    exact e
  | succ q ih =>
    intro y0 y1 y2 h e
    exact (EQ_if e (ih _ _ _ _ (EQ_s rfl e)))
theorem frN_FJ7_fill_53178_k17 {h0 : ph_H} (a1 : Int32) (h : ph_H) (e : EQ pN h0 h) : EQ pN h0 (FJ7_fill_53178_k17 a1 h) := (frN_FJ7_fill_53178_k17_5   _ _ _ _ _ e)
theorem frN_FJ7_fill_53178_k18_5 {h0 : ph_H}  : ∀ (q : Nat) (y0 : Int32) (y1 : Int32) (y2 : Int32) (h : ph_H), EQ pN h0 h → EQ pN h0 (FJ7_fill_53178_k18_5  q y0 y1 y2 h) := by
  intro q
  induction q with
  | zero =>
    intro y0 y1 y2 h e
    exact e
  | succ q ih =>
    intro y0 y1 y2 h e
    exact (EQ_if e (ih _ _ _ _ (EQ_s rfl e)))
theorem frN_FJ7_fill_53178_k18 {h0 : ph_H} (a1 : Int32) (h : ph_H) (e : EQ pN h0 h) : EQ pN h0 (FJ7_fill_53178_k18 a1 h) := (frN_FJ7_fill_53178_k18_5   _ _ _ _ _ e)
theorem frN_FJ7_fill_53178_k19_5 {h0 : ph_H}  : ∀ (q : Nat) (y0 : Int32) (y1 : Int32) (y2 : Int32) (h : ph_H), EQ pN h0 h → EQ pN h0 (FJ7_fill_53178_k19_5  q y0 y1 y2 h) := by
  intro q
  induction q with
  | zero =>
    intro y0 y1 y2 h e
    exact e
  | succ q ih =>
    intro y0 y1 y2 h e
    exact (EQ_if e (ih _ _ _ _ (EQ_s rfl e)))
theorem frN_FJ7_fill_53178_k19 {h0 : ph_H} (a1 : Int32) (h : ph_H) (e : EQ pN h0 h) : EQ pN h0 (FJ7_fill_53178_k19 a1 h) := (frN_FJ7_fill_53178_k19_5   _ _ _ _ _ e)
theorem frN_FX3_begin_st_52 {h0 : ph_H} (x2 : Int32) (h : ph_H) (e : EQ pN h0 h) : EQ pN h0 (FX3_begin_st_52 x2 h) := (EQ_s rfl (EQ_s rfl (EQ_s rfl (EQ_s rfl e))))
theorem frN_FX3_begin_st_44 {h0 : ph_H} (x2 : Int32) (h : ph_H) (e : EQ pN h0 h) : EQ pN h0 (FX3_begin_st_44 x2 h) := (frN_FX3_begin_st_52 _  _ (frN_FJ7_fill_53178_k19 _  _ e))
theorem frN_FX3_begin_st_21 {h0 : ph_H} (x2 : Int32) (h : ph_H) (e : EQ pN h0 h) : EQ pN h0 (FX3_begin_st_21 x2 h) := (frN_FX3_begin_st_44 _  _ (frN_FJ7_fill_53178_k18 _  _ (EQ_c (fun _ => rfl) e)))
theorem frN_FX3_begin_st_13 {h0 : ph_H} (x2 : Int32) (h : ph_H) (e : EQ pN h0 h) : EQ pN h0 (FX3_begin_st_13 x2 h) := (frN_FX3_begin_st_21 _  _ (frN_FJ7_fill_53178_k17 _  _ e))
theorem frN_FX3_begin_st {h0 : ph_H} (a1 : Int32) (h : ph_H) (e : EQ pN h0 h) : EQ pN h0 (FX3_begin_st a1 h) := (frN_FX3_begin_st_13 _  _ (frN_FJ7_fill_53178_k16 _  _ e))
theorem frN_FX4_forget {h0 : ph_H}  (h : ph_H) (e : EQ pN h0 h) : EQ pN h0 (FX4_forget h) := (EQ_s rfl e)
theorem frN_FX5_become_tn {h0 : ph_H}  (h : ph_H) (e : EQ pN h0 h) : EQ pN h0 (FX5_become_tn h) := (EQ_s rfl (EQ_s rfl (EQ_c (fun _ => rfl) (EQ_c (fun _ => rfl) (EQ_c (fun _ => rfl) (EQ_c (fun _ => rfl) (EQ_c (fun _ => rfl) (EQ_c (fun _ => rfl) e))))))))
theorem frN_FX11_run_47 {h0 : ph_H}  (h : ph_H) (e : EQ pN h0 h) : EQ pN h0 (FX11_run_47 h).2 := (EQ_s rfl (EQ_s rfl (EQ_s rfl e)))
theorem frN_FX11_run_40 {h0 : ph_H}  (h : ph_H) (e : EQ pN h0 h) : EQ pN h0 (FX11_run_40 h).2 := (frN_FX11_run_47   _ (frN_FX4_forget   _ e))
theorem frN_FX11_run_29 {h0 : ph_H}  (h : ph_H) (e : EQ pN h0 h) : EQ pN h0 (FX11_run_29 h).2 := (frN_FX11_run_40   _ (frN_FX10_record_s   _ e))
theorem frN_FX11_run_11 {h0 : ph_H}  (h : ph_H) (e : EQ pN h0 h) : EQ pN h0 (FX11_run_11 h).2 := (frN_FX11_run_29   _ (frN_FX3_begin_st _  _ e))
theorem frN_FX11_run {h0 : ph_H}  (h : ph_H) (e : EQ pN h0 h) : EQ pN h0 (FX11_run h).2 := (frN_FX11_run_11   _ (frN_FX5_become_tn   _ e))
def pCR (k i : Nat) : Bool := match k with
  | 0 => i == 8 || i == 9 || i == 10 || i == 12
  | 8 => true
  | 9 => true
  | 10 => true
  | 11 => true
  | 12 => true
  | 13 => true
  | 14 => true
  | 15 => true
  | 16 => true
  | 17 => true
  | 18 => true
  | 19 => true
  | 20 => true
  | 21 => true
  | 22 => true
  | 23 => true
  | 24 => true
  | 35 => true
  | 36 => true
  | 37 => true
  | 38 => true
  | 39 => true
  | 40 => true
  | 41 => true
  | 42 => true
  | 43 => true
  | 44 => true
  | 45 => true
  | 46 => true
  | 52 => i == 6 || i == 8 || i == 9 || i == 10
  | 54 => true
  | 55 => true
  | _ => false
theorem pCR_57 (n i : Nat) : pCR (57 + n) i = false := by
  unfold pCR
  split <;> first | omega | rfl
theorem frCR_FX11_code {h0 : ph_H} (a0 : Int32) (a1 : Int32) (a2 : Int32) (a3 : Int32) (a4 : Int32) (h : ph_H) (e : EQ pCR h0 h) : EQ pCR h0 (FX11_code a0 a1 a2 a3 a4 h).2 := (EQ2_if e (EQ2_if e (EQ2_if (EQ2_if (EQ_s rfl (EQ_s rfl (EQ_s rfl (EQ_s rfl (EQ_s rfl e))))) e) e)))
theorem frCR_FX11_clear {h0 : ph_H} (a0 : Int32) (h : ph_H) (e : EQ pCR h0 h) : EQ pCR h0 (FX11_clear a0 h).2 := (EQ2_if e (EQ_s rfl e))
theorem frCR_FX11_cell {h0 : ph_H} (a0 : Int32) (a1 : Int32) (h : ph_H) (e : EQ pCR h0 h) : EQ pCR h0 (FX11_cell a0 a1 h).2 := (EQ2_if e (EQ_s rfl e))
theorem frCR_FX11_input {h0 : ph_H} (a0 : Int32) (h : ph_H) (e : EQ pCR h0 h) : EQ pCR h0 (FX11_input a0 h).2 := (EQ2_if (EQ_s rfl (EQ_s rfl e)) e)
theorem frCR_FX11_turn {h0 : ph_H} (a0 : Int32) (a1 : Int32) (h : ph_H) (e : EQ pCR h0 h) : EQ pCR h0 (FX11_turn a0 a1 h).2 := (EQ2_if e (EQ2_if e (EQ2_if (EQ2_if (EQ_s rfl (EQ_s rfl (EQ_s rfl e))) e) e)))
theorem frCR_FX11_freely {h0 : ph_H}  (h : ph_H) (e : EQ pCR h0 h) : EQ pCR h0 (FX11_freely h).2 := (EQ_s rfl e)
def pV (k i : Nat) : Bool := match k with
  | 0 => i == 7 || i == 9 || i == 66 || i == 36 || i == 37 || i == 38 || i == 39 || i == 40 || i == 41 || i == 42 || i == 60 || i == 67 || i == 69 || i == 70 || i == 73
  | 1 => true
  | 2 => true
  | 3 => true
  | 4 => true
  | 5 => true
  | 6 => true
  | 7 => true
  | 8 => true
  | 9 => true
  | 20 => true
  | 21 => true
  | 22 => true
  | 23 => true
  | 24 => true
  | 25 => true
  | 26 => true
  | 27 => true
  | 28 => true
  | 29 => true
  | 30 => true
  | 31 => true
  | 32 => true
  | 33 => true
  | 34 => true
  | 35 => true
  | 36 => true
  | 37 => true
  | 38 => true
  | 40 => true
  | 41 => true
  | _ => false
theorem frV_FX12_told {h0 : ph_H} (a0 : Int32) (h : ph_H) (e : EQ pV h0 h) : EQ pV h0 (FX12_told a0 h).2 := (EQ2_if (EQ_s rfl e) (EQ2_if (EQ_s rfl e) (EQ2_if (EQ_s rfl e) (EQ2_if (EQ_s rfl e) (EQ2_if (EQ_s rfl e) (EQ2_if (EQ_s rfl e) (EQ2_if (EQ_s rfl e) (EQ2_if (EQ_s rfl e) (EQ2_if (EQ_s rfl e) (EQ_s rfl e))))))))))
theorem frV_FX12_change_36 {h0 : ph_H}  (h : ph_H) (e : EQ pV h0 h) : EQ pV h0 (FX12_change_36 h).2 := e
theorem frV_FX12_change {h0 : ph_H} (a0 : Int32) (a1 : Int32) (h : ph_H) (e : EQ pV h0 h) : EQ pV h0 (FX12_change a0 a1 h).2 := (EQ2_if (EQ_s rfl e) (EQ2_if (frV_FX12_change_36   _ (EQ_s rfl e)) (EQ2_if (frV_FX12_change_36   _ (EQ_s rfl e)) (EQ2_if (frV_FX12_change_36   _ (EQ_s rfl e)) (EQ2_if (EQ_s rfl e) (EQ_s rfl e))))))
theorem frV_FX12_step_ {h0 : ph_H} (a0 : Int32) (a1 : Int32) (h : ph_H) (e : EQ pV h0 h) : EQ pV h0 (FX12_step_ a0 a1 h).2 := (EQ2_if (EQ_s rfl e) (EQ2_if (EQ_s rfl e) (EQ2_if (EQ_s rfl e) (EQ2_if (EQ_s rfl e) (EQ2_if (EQ_s rfl e) (EQ2_if (EQ_s rfl e) (EQ2_if (EQ_s rfl e) (EQ2_if (EQ_s rfl e) (EQ_s rfl e)))))))))
theorem frV_FX12_ended {h0 : ph_H}  (h : ph_H) (e : EQ pV h0 h) : EQ pV h0 (FX12_ended h).2 := (EQ_s rfl e)
theorem frV_FX12_value_119 {h0 : ph_H} (x3 : Int32) (s0 : Int32) (s1 : Int32) (h : ph_H) (e : EQ pV h0 h) : EQ pV h0 (FX12_value_119 x3 s0 s1 h).2 := (EQ2_if e e)
theorem frV_FX12_value_83 {h0 : ph_H} (x1 : Int32) (x2 : Int32) (x3 : Int32) (s0 : Int32) (h : ph_H) (e : EQ pV h0 h) : EQ pV h0 (FX12_value_83 x1 x2 x3 s0 h).2 := (EQ2_if (EQ2_if (frV_FX12_value_119 _ _ _  _ (EQ_s rfl e)) (frV_FX12_value_119 _ _ _  _ (EQ_s rfl e))) (EQ_s rfl e))
theorem frV_FX12_value_59 {h0 : ph_H} (x1 : Int32) (x2 : Int32) (x3 : Int32) (s0 : Int32) (h : ph_H) (e : EQ pV h0 h) : EQ pV h0 (FX12_value_59 x1 x2 x3 s0 h).2 := (EQ2_if (frV_FX12_value_83 _ _ _ _  _ e) (EQ2_if (frV_FX12_value_83 _ _ _ _  _ e) (frV_FX12_value_83 _ _ _ _  _ e)))
theorem frV_FX12_value_54 {h0 : ph_H} (x1 : Int32) (x2 : Int32) (x3 : Int32) (h : ph_H) (e : EQ pV h0 h) : EQ pV h0 (FX12_value_54 x1 x2 x3 h).2 := (frV_FX12_value_59 _ _ _ _  _ e)
theorem frV_FX12_value_58 {h0 : ph_H} (x1 : Int32) (x2 : Int32) (x3 : Int32) (h : ph_H) (e : EQ pV h0 h) : EQ pV h0 (FX12_value_58 x1 x2 x3 h).2 := (frV_FX12_value_59 _ _ _ _  _ e)
theorem frV_FX12_value {h0 : ph_H} (a0 : Int32) (a1 : Int32) (a2 : Int32) (h : ph_H) (e : EQ pV h0 h) : EQ pV h0 (FX12_value a0 a1 a2 h).2 := (EQ2_if (frV_FX12_value_58 _ _ _  _ e) (EQ2_if (EQ2_if (frV_FX12_value_58 _ _ _  _ e) (frV_FX12_value_54 _ _ _  _ e)) (EQ2_if (frV_FX12_value_58 _ _ _  _ e) (EQ2_if (frV_FX12_value_58 _ _ _  _ e) (frV_FX12_value_54 _ _ _  _ e)))))
theorem frV_FX12_thing {h0 : ph_H} (a0 : Int32) (a1 : Int32) (h : ph_H) (e : EQ pV h0 h) : EQ pV h0 (FX12_thing a0 a1 h).2 := (EQ2_if (EQ_s rfl e) (EQ2_if (EQ_s rfl e) (EQ2_if (EQ_s rfl e) (EQ2_if (EQ_s rfl e) (EQ2_if (EQ_s rfl e) (EQ2_if (EQ_s rfl e) (EQ_s rfl e)))))))
theorem frV_FX12_place_79 {h0 : ph_H} (x1 : Int32) (x2 : Int32) (x3 : Int32) (s0 : Int32) (h : ph_H) (e : EQ pV h0 h) : EQ pV h0 (FX12_place_79 x1 x2 x3 s0 h).2 := (EQ2_if (EQ_s rfl e) (EQ_s rfl e))
theorem frV_FX12_place_57 {h0 : ph_H} (x1 : Int32) (x2 : Int32) (s0 : Int32) (h : ph_H) (e : EQ pV h0 h) : EQ pV h0 (FX12_place_57 x1 x2 s0 h).2 := (EQ2_if (frV_FX12_place_79 _ _ _ _  _ e) (EQ2_if (frV_FX12_place_79 _ _ _ _  _ e) (frV_FX12_place_79 _ _ _ _  _ e)))
theorem frV_FX12_place_56 {h0 : ph_H} (x1 : Int32) (x2 : Int32) (h : ph_H) (e : EQ pV h0 h) : EQ pV h0 (FX12_place_56 x1 x2 h).2 := (frV_FX12_place_57 _ _ _  _ e)
theorem frV_FX12_place {h0 : ph_H} (a0 : Int32) (a1 : Int32) (h : ph_H) (e : EQ pV h0 h) : EQ pV h0 (FX12_place a0 a1 h).2 := (EQ2_if (frV_FX12_place_56 _ _  _ e) (EQ2_if (EQ2_if (frV_FX12_place_56 _ _  _ e) (frV_FX12_place_57 _ _ _  _ e)) (frV_FX12_place_56 _ _  _ e)))
theorem frV_FX12_thread {h0 : ph_H} (a0 : Int32) (a1 : Int32) (h : ph_H) (e : EQ pV h0 h) : EQ pV h0 (FX12_thread a0 a1 h).2 := (EQ2_if (EQ_s rfl e) (EQ2_if (EQ_s rfl e) (EQ2_if (EQ_s rfl e) (EQ2_if (EQ_s rfl e) (EQ_s rfl e)))))
theorem frV_FX12_last_63 {h0 : ph_H} (L36 : Int32 → Int32 → Int32 → Int32 → ph_H → Int32 × ph_H) (x1 : Int32) (x2 : Int32) (x4 : Int32) (s0 : Int32) (hL36 : ∀ (y0 : Int32) (y1 : Int32) (y2 : Int32) (y3 : Int32) (h : ph_H), EQ pV h0 h → EQ pV h0 (L36 y0 y1 y2 y3 h).2) (h : ph_H) (e : EQ pV h0 h) : EQ pV h0 (FX12_last_63 L36 x1 x2 x4 s0 h).2 := (hL36 _ _ _ _ _ e)
theorem frV_FX12_last_62 {h0 : ph_H} (L36 : Int32 → Int32 → Int32 → Int32 → ph_H → Int32 × ph_H) (x1 : Int32) (x2 : Int32) (x3 : Int32) (x4 : Int32) (hL36 : ∀ (y0 : Int32) (y1 : Int32) (y2 : Int32) (y3 : Int32) (h : ph_H), EQ pV h0 h → EQ pV h0 (L36 y0 y1 y2 y3 h).2) (h : ph_H) (e : EQ pV h0 h) : EQ pV h0 (FX12_last_62 L36 x1 x2 x3 x4 h).2 := (frV_FX12_last_63 _ _ _ _ _ hL36 _ e)
theorem frV_FX12_last_36 {h0 : ph_H}  : ∀ (q : Nat) (y0 : Int32) (y1 : Int32) (y2 : Int32) (y3 : Int32) (h : ph_H), EQ pV h0 h → EQ pV h0 (FX12_last_36  q y0 y1 y2 y3 h).2 := by
  intro q
  induction q with
  | zero =>
    intro y0 y1 y2 y3 h e
    exact e
  | succ q ih =>
    intro y0 y1 y2 y3 h e
    exact (EQ2_if e (EQ2_if (EQ2_if (frV_FX12_last_62 _ _ _ _ _ ih _ e) (frV_FX12_last_63 _ _ _ _ _ ih _ e)) (frV_FX12_last_62 _ _ _ _ _ ih _ e)))
theorem frV_FX12_last {h0 : ph_H} (a0 : Int32) (a1 : Int32) (h : ph_H) (e : EQ pV h0 h) : EQ pV h0 (FX12_last a0 a1 h).2 := (EQ2_if (EQ_s rfl e) (EQ2_if (EQ_s rfl e) (frV_FX12_last_36   _ _ _ _ _ _ (EQ_s rfl e))))
theorem frV_FX12_next_59 {h0 : ph_H} (L35 : Int32 → Int32 → ph_H → Int32 × ph_H) (x1 : Int32) (x3 : Int32) (hL35 : ∀ (y0 : Int32) (y1 : Int32) (h : ph_H), EQ pV h0 h → EQ pV h0 (L35 y0 y1 h).2) (h : ph_H) (e : EQ pV h0 h) : EQ pV h0 (FX12_next_59 L35 x1 x3 h).2 := (hL35 _ _ _ e)
theorem frV_FX12_next_35 {h0 : ph_H}  : ∀ (q : Nat) (y0 : Int32) (y1 : Int32) (h : ph_H), EQ pV h0 h → EQ pV h0 (FX12_next_35  q y0 y1 h).2 := by
  intro q
  induction q with
  | zero =>
    intro y0 y1 h e
    exact e
  | succ q ih =>
    intro y0 y1 h e
    exact (EQ2_if e (EQ2_if (EQ2_if (frV_FX12_next_59 _ _ _ ih _ e) e) (frV_FX12_next_59 _ _ _ ih _ e)))
theorem frV_FX12_next {h0 : ph_H} (a0 : Int32) (a1 : Int32) (h : ph_H) (e : EQ pV h0 h) : EQ pV h0 (FX12_next a0 a1 h).2 := (EQ2_if (EQ_s rfl e) (EQ2_if (EQ_s rfl e) (frV_FX12_next_35   _ _ _ _ (EQ_s rfl e))))
theorem frV_FX12_when_166 {h0 : ph_H} (L54 : Int32 → Int32 → Int32 → Int32 → Int32 → Int32 → Int32 → Int32 → ph_H → Int32 × ph_H) (x1 : Int32) (x2 : Int32) (x3 : Int32) (x4 : Int32) (x5 : Int32) (x7 : Int32) (x8 : Int32) (x9 : Int32) (hL54 : ∀ (y0 : Int32) (y1 : Int32) (y2 : Int32) (y3 : Int32) (y4 : Int32) (y5 : Int32) (y6 : Int32) (y7 : Int32) (h : ph_H), EQ pV h0 h → EQ pV h0 (L54 y0 y1 y2 y3 y4 y5 y6 y7 h).2) (h : ph_H) (e : EQ pV h0 h) : EQ pV h0 (FX12_when_166 L54 x1 x2 x3 x4 x5 x7 x8 x9 h).2 := (hL54 _ _ _ _ _ _ _ _ _ e)
theorem frV_FX12_when_163 {h0 : ph_H} (L54 : Int32 → Int32 → Int32 → Int32 → Int32 → Int32 → Int32 → Int32 → ph_H → Int32 × ph_H) (x1 : Int32) (x2 : Int32) (x3 : Int32) (x4 : Int32) (x5 : Int32) (x7 : Int32) (x8 : Int32) (x9 : Int32) (hL54 : ∀ (y0 : Int32) (y1 : Int32) (y2 : Int32) (y3 : Int32) (y4 : Int32) (y5 : Int32) (y6 : Int32) (y7 : Int32) (h : ph_H), EQ pV h0 h → EQ pV h0 (L54 y0 y1 y2 y3 y4 y5 y6 y7 h).2) (h : ph_H) (e : EQ pV h0 h) : EQ pV h0 (FX12_when_163 L54 x1 x2 x3 x4 x5 x7 x8 x9 h).2 := (frV_FX12_when_166 _ _ _ _ _ _ _ _ _ hL54 _ e)
theorem frV_FX12_when_126 {h0 : ph_H} (L54 : Int32 → Int32 → Int32 → Int32 → Int32 → Int32 → Int32 → Int32 → ph_H → Int32 × ph_H) (x1 : Int32) (x2 : Int32) (x3 : Int32) (x4 : Int32) (x5 : Int32) (x6 : Int32) (x7 : Int32) (x8 : Int32) (x9 : Int32) (hL54 : ∀ (y0 : Int32) (y1 : Int32) (y2 : Int32) (y3 : Int32) (y4 : Int32) (y5 : Int32) (y6 : Int32) (y7 : Int32) (h : ph_H), EQ pV h0 h → EQ pV h0 (L54 y0 y1 y2 y3 y4 y5 y6 y7 h).2) (h : ph_H) (e : EQ pV h0 h) : EQ pV h0 (FX12_when_126 L54 x1 x2 x3 x4 x5 x6 x7 x8 x9 h).2 := (EQ2_if (EQ2_if (frV_FX12_when_166 _ _ _ _ _ _ _ _ _ hL54 _ e) (EQ2_if (EQ2_if (frV_FX12_when_163 _ _ _ _ _ _ _ _ _ hL54 _ e) (EQ2_if e e)) (frV_FX12_when_163 _ _ _ _ _ _ _ _ _ hL54 _ e))) (frV_FX12_when_166 _ _ _ _ _ _ _ _ _ hL54 _ e))
theorem frV_FX12_when_110 {h0 : ph_H} (L54 : Int32 → Int32 → Int32 → Int32 → Int32 → Int32 → Int32 → Int32 → ph_H → Int32 × ph_H) (x1 : Int32) (x2 : Int32) (x3 : Int32) (x4 : Int32) (x5 : Int32) (x6 : Int32) (x7 : Int32) (x8 : Int32) (s0 : Int32) (hL54 : ∀ (y0 : Int32) (y1 : Int32) (y2 : Int32) (y3 : Int32) (y4 : Int32) (y5 : Int32) (y6 : Int32) (y7 : Int32) (h : ph_H), EQ pV h0 h → EQ pV h0 (L54 y0 y1 y2 y3 y4 y5 y6 y7 h).2) (h : ph_H) (e : EQ pV h0 h) : EQ pV h0 (FX12_when_110 L54 x1 x2 x3 x4 x5 x6 x7 x8 s0 h).2 := (EQ2_if (frV_FX12_when_126 _ _ _ _ _ _ _ _ _ _ hL54 _ e) (EQ2_if (frV_FX12_when_126 _ _ _ _ _ _ _ _ _ _ hL54 _ e) (frV_FX12_when_126 _ _ _ _ _ _ _ _ _ _ hL54 _ e)))
theorem frV_FX12_when_109 {h0 : ph_H} (L54 : Int32 → Int32 → Int32 → Int32 → Int32 → Int32 → Int32 → Int32 → ph_H → Int32 × ph_H) (x1 : Int32) (x2 : Int32) (x3 : Int32) (x4 : Int32) (x5 : Int32) (x6 : Int32) (x7 : Int32) (x8 : Int32) (hL54 : ∀ (y0 : Int32) (y1 : Int32) (y2 : Int32) (y3 : Int32) (y4 : Int32) (y5 : Int32) (y6 : Int32) (y7 : Int32) (h : ph_H), EQ pV h0 h → EQ pV h0 (L54 y0 y1 y2 y3 y4 y5 y6 y7 h).2) (h : ph_H) (e : EQ pV h0 h) : EQ pV h0 (FX12_when_109 L54 x1 x2 x3 x4 x5 x6 x7 x8 h).2 := (frV_FX12_when_110 _ _ _ _ _ _ _ _ _ _ hL54 _ e)
theorem frV_FX12_when_54 {h0 : ph_H}  : ∀ (q : Nat) (y0 : Int32) (y1 : Int32) (y2 : Int32) (y3 : Int32) (y4 : Int32) (y5 : Int32) (y6 : Int32) (y7 : Int32) (h : ph_H), EQ pV h0 h → EQ pV h0 (FX12_when_54  q y0 y1 y2 y3 y4 y5 y6 y7 h).2 := by
  intro q
  induction q with
  | zero =>
    intro y0 y1 y2 y3 y4 y5 y6 y7 h e
    exact e
  | succ q ih =>
    intro y0 y1 y2 y3 y4 y5 y6 y7 h e
    exact (EQ2_if (EQ2_if e e) (EQ2_if (frV_FX12_when_109 _ _ _ _ _ _ _ _ _ ih _ e) (EQ2_if (EQ2_if (frV_FX12_when_110 _ _ _ _ _ _ _ _ _ _ ih _ e) (frV_FX12_when_109 _ _ _ _ _ _ _ _ _ ih _ e)) (frV_FX12_when_109 _ _ _ _ _ _ _ _ _ ih _ e))))
theorem frV_FX12_when {h0 : ph_H} (a0 : Int32) (a1 : Int32) (a2 : Int32) (a3 : Int32) (h : ph_H) (e : EQ pV h0 h) : EQ pV h0 (FX12_when a0 a1 a2 a3 h).2 := (EQ2_if (EQ_s rfl e) (EQ2_if (EQ_s rfl e) (EQ2_if (EQ_s rfl e) (frV_FX12_when_54   _ _ _ _ _ _ _ _ _ _ (EQ_s rfl e)))))
theorem frV_FX12_findAhead_147 {h0 : ph_H} (L15 : Int32 → ph_H → ph_H) (L53 : Int32 → Int32 → ph_H → ph_H) (L96 : Int32 → Int32 → Int32 → ph_H → ph_H) (x1 : Int32) (x2 : Int32) (x3 : Int32) (s0 : Int32) (s1 : Int32) (hL15 : ∀ (y0 : Int32) (h : ph_H), EQ pV h0 h → EQ pV h0 (L15 y0 h)) (hL53 : ∀ (y0 : Int32) (y1 : Int32) (h : ph_H), EQ pV h0 h → EQ pV h0 (L53 y0 y1 h)) (hL96 : ∀ (y0 : Int32) (y1 : Int32) (y2 : Int32) (h : ph_H), EQ pV h0 h → EQ pV h0 (L96 y0 y1 y2 h)) (h : ph_H) (e : EQ pV h0 h) : EQ pV h0 (FX12_findAhead_147 L15 L53 L96 x1 x2 x3 s0 s1 h) := (hL96 _ _ _ _ (EQ_s rfl e))
theorem frV_FX12_findAhead_142 {h0 : ph_H} (L15 : Int32 → ph_H → ph_H) (L53 : Int32 → Int32 → ph_H → ph_H) (L96 : Int32 → Int32 → Int32 → ph_H → ph_H) (x1 : Int32) (x2 : Int32) (x3 : Int32) (s0 : Int32) (hL15 : ∀ (y0 : Int32) (h : ph_H), EQ pV h0 h → EQ pV h0 (L15 y0 h)) (hL53 : ∀ (y0 : Int32) (y1 : Int32) (h : ph_H), EQ pV h0 h → EQ pV h0 (L53 y0 y1 h)) (hL96 : ∀ (y0 : Int32) (y1 : Int32) (y2 : Int32) (h : ph_H), EQ pV h0 h → EQ pV h0 (L96 y0 y1 y2 h)) (h : ph_H) (e : EQ pV h0 h) : EQ pV h0 (FX12_findAhead_142 L15 L53 L96 x1 x2 x3 s0 h) := (frV_FX12_findAhead_147 _ _ _ _ _ _ _ _ hL15 hL53 hL96 _ e)
theorem frV_FX12_findAhead_154 {h0 : ph_H} (L15 : Int32 → ph_H → ph_H) (L53 : Int32 → Int32 → ph_H → ph_H) (x1 : Int32) (x2 : Int32) (hL15 : ∀ (y0 : Int32) (h : ph_H), EQ pV h0 h → EQ pV h0 (L15 y0 h)) (hL53 : ∀ (y0 : Int32) (y1 : Int32) (h : ph_H), EQ pV h0 h → EQ pV h0 (L53 y0 y1 h)) (h : ph_H) (e : EQ pV h0 h) : EQ pV h0 (FX12_findAhead_154 L15 L53 x1 x2 h) := (hL53 _ _ _ e)
theorem frV_FX12_findAhead_96 {h0 : ph_H} (L15 : Int32 → ph_H → ph_H) (L53 : Int32 → Int32 → ph_H → ph_H) (hL15 : ∀ (y0 : Int32) (h : ph_H), EQ pV h0 h → EQ pV h0 (L15 y0 h)) (hL53 : ∀ (y0 : Int32) (y1 : Int32) (h : ph_H), EQ pV h0 h → EQ pV h0 (L53 y0 y1 h)) : ∀ (q : Nat) (y0 : Int32) (y1 : Int32) (y2 : Int32) (h : ph_H), EQ pV h0 h → EQ pV h0 (FX12_findAhead_96 L15 L53 q y0 y1 y2 h) := by
  intro q
  induction q with
  | zero =>
    intro y0 y1 y2 h e
    exact e
  | succ q ih =>
    intro y0 y1 y2 h e
    exact (EQ_if (frV_FX12_findAhead_154 _ _ _ _ hL15 hL53 _ e) (EQ_if (EQ_if (frV_FX12_findAhead_147 _ _ _ _ _ _ _ _ hL15 hL53 ih _ e) (frV_FX12_findAhead_142 _ _ _ _ _ _ _ hL15 hL53 ih _ e)) (frV_FX12_findAhead_142 _ _ _ _ _ _ _ hL15 hL53 ih _ e)))
theorem frV_FX12_findAhead_53 {h0 : ph_H} (L15 : Int32 → ph_H → ph_H) (hL15 : ∀ (y0 : Int32) (h : ph_H), EQ pV h0 h → EQ pV h0 (L15 y0 h)) : ∀ (q : Nat) (y0 : Int32) (y1 : Int32) (h : ph_H), EQ pV h0 h → EQ pV h0 (FX12_findAhead_53 L15 q y0 y1 h) := by
  intro q
  induction q with
  | zero =>
    intro y0 y1 h e
    exact e
  | succ q ih =>
    intro y0 y1 h e
    exact (EQ_if (hL15 _ _ e) (EQ_if (EQ_if (frV_FX12_findAhead_154 _ _ _ _ hL15 ih _ e) (frV_FX12_findAhead_96 _ _ hL15 ih _ _ _ _ _ (EQ_s rfl e))) (frV_FX12_findAhead_154 _ _ _ _ hL15 ih _ e)))
theorem frV_FX12_findAhead_25 {h0 : ph_H} (L15 : Int32 → ph_H → ph_H) (hL15 : ∀ (y0 : Int32) (h : ph_H), EQ pV h0 h → EQ pV h0 (L15 y0 h)) : ∀ (q : Nat) (y0 : Int32) (y1 : Int32) (h : ph_H), EQ pV h0 h → EQ pV h0 (FX12_findAhead_25 L15 q y0 y1 h) := by
  intro q
  induction q with
  | zero =>
    intro y0 y1 h e
    exact e
  | succ q ih =>
    intro y0 y1 h e
    exact (EQ_if (frV_FX12_findAhead_53 _ hL15 _ _ _ _ e) (ih _ _ _ (EQ_s rfl e)))
theorem frV_FX12_findAhead_15 {h0 : ph_H}  : ∀ (q : Nat) (y0 : Int32) (h : ph_H), EQ pV h0 h → EQ pV h0 (FX12_findAhead_15  q y0 h) := by
  intro q
  induction q with
  | zero =>
    intro y0 h e
    exact e
  | succ q ih =>
    intro y0 h e
    exact (EQ_if e (frV_FX12_findAhead_25 _ ih _ _ _ _ e))
theorem frV_FX12_findAhead {h0 : ph_H}  (h : ph_H) (e : EQ pV h0 h) : EQ pV h0 (FX12_findAhead h) := (EQ_if (frV_FX12_findAhead_15   _ _ _ (EQ_s rfl e)) e)
theorem frV_FX12_ahead_48 {h0 : ph_H} (x1 : Int32) (x2 : Int32) (h : ph_H) (e : EQ pV h0 h) : EQ pV h0 (FX12_ahead_48 x1 x2 h).2 := (EQ2_if e e)
theorem frV_FX12_ahead {h0 : ph_H} (a0 : Int32) (a1 : Int32) (h : ph_H) (e : EQ pV h0 h) : EQ pV h0 (FX12_ahead a0 a1 h).2 := (EQ2_if (EQ_s rfl e) (EQ2_if (EQ_s rfl e) (EQ2_if (EQ_s rfl e) (frV_FX12_ahead_48 _ _  _ (frV_FX12_findAhead   _ (EQ_s rfl e))))))
theorem frV_FX12_race_115 {h0 : ph_H} (L38 : Int32 → Int32 → Int32 → Int32 → ph_H → Int32 × ph_H) (L50 : Int32 → Int32 → Int32 → Int32 → Int32 → ph_H → Int32 × ph_H) (x1 : Int32) (x2 : Int32) (x4 : Int32) (x5 : Int32) (s0 : Int32) (s1 : Int32) (hL38 : ∀ (y0 : Int32) (y1 : Int32) (y2 : Int32) (y3 : Int32) (h : ph_H), EQ pV h0 h → EQ pV h0 (L38 y0 y1 y2 y3 h).2) (hL50 : ∀ (y0 : Int32) (y1 : Int32) (y2 : Int32) (y3 : Int32) (y4 : Int32) (h : ph_H), EQ pV h0 h → EQ pV h0 (L50 y0 y1 y2 y3 y4 h).2) (h : ph_H) (e : EQ pV h0 h) : EQ pV h0 (FX12_race_115 L38 L50 x1 x2 x4 x5 s0 s1 h).2 := (hL50 _ _ _ _ _ _ e)
theorem frV_FX12_race_104 {h0 : ph_H} (L38 : Int32 → Int32 → Int32 → Int32 → ph_H → Int32 × ph_H) (L50 : Int32 → Int32 → Int32 → Int32 → Int32 → ph_H → Int32 × ph_H) (x1 : Int32) (x2 : Int32) (x3 : Int32) (x4 : Int32) (x5 : Int32) (x6 : Int32) (hL38 : ∀ (y0 : Int32) (y1 : Int32) (y2 : Int32) (y3 : Int32) (h : ph_H), EQ pV h0 h → EQ pV h0 (L38 y0 y1 y2 y3 h).2) (hL50 : ∀ (y0 : Int32) (y1 : Int32) (y2 : Int32) (y3 : Int32) (y4 : Int32) (h : ph_H), EQ pV h0 h → EQ pV h0 (L50 y0 y1 y2 y3 y4 h).2) (h : ph_H) (e : EQ pV h0 h) : EQ pV h0 (FX12_race_104 L38 L50 x1 x2 x3 x4 x5 x6 h).2 := (EQ2_if (frV_FX12_race_115 _ _ _ _ _ _ _ _ hL38 hL50 _ e) (frV_FX12_race_115 _ _ _ _ _ _ _ _ hL38 hL50 _ e))
theorem frV_FX12_race_50 {h0 : ph_H} (L38 : Int32 → Int32 → Int32 → Int32 → ph_H → Int32 × ph_H) (hL38 : ∀ (y0 : Int32) (y1 : Int32) (y2 : Int32) (y3 : Int32) (h : ph_H), EQ pV h0 h → EQ pV h0 (L38 y0 y1 y2 y3 h).2) : ∀ (q : Nat) (y0 : Int32) (y1 : Int32) (y2 : Int32) (y3 : Int32) (y4 : Int32) (h : ph_H), EQ pV h0 h → EQ pV h0 (FX12_race_50 L38 q y0 y1 y2 y3 y4 h).2 := by
  intro q
  induction q with
  | zero =>
    intro y0 y1 y2 y3 y4 h e
    exact e
  | succ q ih =>
    intro y0 y1 y2 y3 y4 h e
    exact (EQ2_if (hL38 _ _ _ _ _ e) (EQ2_if (frV_FX12_race_104 _ _ _ _ _ _ _ _ hL38 ih _ e) (EQ2_if (EQ2_if (frV_FX12_race_104 _ _ _ _ _ _ _ _ hL38 ih _ e) (EQ2_if e (EQ2_if e e))) (frV_FX12_race_104 _ _ _ _ _ _ _ _ hL38 ih _ e))))
theorem frV_FX12_race_38 {h0 : ph_H}  : ∀ (q : Nat) (y0 : Int32) (y1 : Int32) (y2 : Int32) (y3 : Int32) (h : ph_H), EQ pV h0 h → EQ pV h0 (FX12_race_38  q y0 y1 y2 y3 h).2 := by
  intro q
  induction q with
  | zero =>
    intro y0 y1 y2 y3 h e
    exact e
  | succ q ih =>
    intro y0 y1 y2 y3 h e
    exact (EQ2_if (EQ2_if e e) (frV_FX12_race_50 _ ih _ _ _ _ _ _ _ e))
theorem frV_FX12_race_33 {h0 : ph_H} (x1 : Int32) (x2 : Int32) (h : ph_H) (e : EQ pV h0 h) : EQ pV h0 (FX12_race_33 x1 x2 h).2 := (frV_FX12_race_38   _ _ _ _ _ _ e)
theorem frV_FX12_race {h0 : ph_H} (a0 : Int32) (a1 : Int32) (h : ph_H) (e : EQ pV h0 h) : EQ pV h0 (FX12_race a0 a1 h).2 := (EQ2_if (EQ_s rfl e) (EQ2_if (EQ_s rfl e) (frV_FX12_race_33 _ _  _ (frV_FX12_findAhead   _ (EQ_s rfl e)))))
theorem frV_FX12_differ_117 {h0 : ph_H} (L50 : Int32 → Int32 → Int32 → Int32 → ph_H → Int32 × ph_H) (x1 : Int32) (x2 : Int32) (x4 : Int32) (s0 : Int32) (s1 : Int32) (hL50 : ∀ (y0 : Int32) (y1 : Int32) (y2 : Int32) (y3 : Int32) (h : ph_H), EQ pV h0 h → EQ pV h0 (L50 y0 y1 y2 y3 h).2) (h : ph_H) (e : EQ pV h0 h) : EQ pV h0 (FX12_differ_117 L50 x1 x2 x4 s0 s1 h).2 := (hL50 _ _ _ _ _ e)
theorem frV_FX12_differ_112 {h0 : ph_H} (L50 : Int32 → Int32 → Int32 → Int32 → ph_H → Int32 × ph_H) (x1 : Int32) (x2 : Int32) (x4 : Int32) (s0 : Int32) (hL50 : ∀ (y0 : Int32) (y1 : Int32) (y2 : Int32) (y3 : Int32) (h : ph_H), EQ pV h0 h → EQ pV h0 (L50 y0 y1 y2 y3 h).2) (h : ph_H) (e : EQ pV h0 h) : EQ pV h0 (FX12_differ_112 L50 x1 x2 x4 s0 h).2 := (frV_FX12_differ_117 _ _ _ _ _ _ hL50 _ e)
theorem frV_FX12_differ_165 {h0 : ph_H} (L128 : Int32 → Int32 → Int32 → Int32 → ph_H → Int32 × ph_H) (x1 : Int32) (x2 : Int32) (x4 : Int32) (s0 : Int32) (s1 : Int32) (hL128 : ∀ (y0 : Int32) (y1 : Int32) (y2 : Int32) (y3 : Int32) (h : ph_H), EQ pV h0 h → EQ pV h0 (L128 y0 y1 y2 y3 h).2) (h : ph_H) (e : EQ pV h0 h) : EQ pV h0 (FX12_differ_165 L128 x1 x2 x4 s0 s1 h).2 := (hL128 _ _ _ _ _ e)
theorem frV_FX12_differ_128 {h0 : ph_H}  : ∀ (q : Nat) (y0 : Int32) (y1 : Int32) (y2 : Int32) (y3 : Int32) (h : ph_H), EQ pV h0 h → EQ pV h0 (FX12_differ_128  q y0 y1 y2 y3 h).2 := by
  intro q
  induction q with
  | zero =>
    intro y0 y1 y2 y3 h e
    exact e
  | succ q ih =>
    intro y0 y1 y2 y3 h e
    exact (EQ2_if e (EQ2_if (frV_FX12_differ_165 _ _ _ _ _ _ ih _ e) (frV_FX12_differ_165 _ _ _ _ _ _ ih _ e)))
theorem frV_FX12_differ_50 {h0 : ph_H}  : ∀ (q : Nat) (y0 : Int32) (y1 : Int32) (y2 : Int32) (y3 : Int32) (h : ph_H), EQ pV h0 h → EQ pV h0 (FX12_differ_50  q y0 y1 y2 y3 h).2 := by
  intro q
  induction q with
  | zero =>
    intro y0 y1 y2 y3 h e
    exact e
  | succ q ih =>
    intro y0 y1 y2 y3 h e
    exact (EQ2_if (frV_FX12_differ_128   _ _ _ _ _ _ e) (EQ2_if (EQ2_if (frV_FX12_differ_117 _ _ _ _ _ _ ih _ e) (frV_FX12_differ_112 _ _ _ _ _ ih _ e)) (frV_FX12_differ_112 _ _ _ _ _ ih _ e)))
theorem frV_FX12_differ {h0 : ph_H} (a0 : Int32) (a1 : Int32) (h : ph_H) (e : EQ pV h0 h) : EQ pV h0 (FX12_differ a0 a1 h).2 := (EQ2_if (EQ_s rfl e) (EQ2_if (EQ_s rfl e) (EQ2_if (EQ_s rfl e) (frV_FX12_differ_50   _ _ _ _ _ _ (EQ_s rfl e)))))
theorem frV_FX12_found_49 {h0 : ph_H} (x1 : Int32) (h : ph_H) (e : EQ pV h0 h) : EQ pV h0 (FX12_found_49 x1 h).2 := (EQ2_if e e)
theorem frV_FX12_found_75 {h0 : ph_H} (x1 : Int32) (s0 : Int32) (h : ph_H) (e : EQ pV h0 h) : EQ pV h0 (FX12_found_75 x1 s0 h).2 := (EQ2_if (EQ2_if e e) e)
theorem frV_FX12_found {h0 : ph_H} (a0 : Int32) (h : ph_H) (e : EQ pV h0 h) : EQ pV h0 (FX12_found a0 h).2 := (EQ2_if (EQ_s rfl e) (EQ2_if (EQ_s rfl e) (EQ2_if (EQ_s rfl e) (EQ2_if (frV_FX12_found_49 _  _ (EQ_s rfl e)) (EQ2_if (frV_FX12_found_49 _  _ (EQ_s rfl e)) (EQ2_if (frV_FX12_found_75 _ _  _ (EQ_s rfl e)) (frV_FX12_found_75 _ _  _ (EQ_s rfl e))))))))
theorem frV_FX12_keep__246 {h0 : ph_H} (L174 : Int32 → Int32 → Int32 → ph_H → Int32 × ph_H) (x1 : Int32) (x2 : Int32) (x4 : Int32) (s0 : Int32) (s1 : Int32) (hL174 : ∀ (y0 : Int32) (y1 : Int32) (y2 : Int32) (h : ph_H), EQ pV h0 h → EQ pV h0 (L174 y0 y1 y2 h).2) (h : ph_H) (e : EQ pV h0 h) : EQ pV h0 (FX12_keep__246 L174 x1 x2 x4 s0 s1 h).2 := (hL174 _ _ _ _ (EQ_s rfl e))
theorem frV_FX12_keep__174 {h0 : ph_H}  : ∀ (q : Nat) (y0 : Int32) (y1 : Int32) (y2 : Int32) (h : ph_H), EQ pV h0 h → EQ pV h0 (FX12_keep__174  q y0 y1 y2 h).2 := by
  intro q
  induction q with
  | zero =>
    intro y0 y1 y2 h e
    exact e
  | succ q ih =>
    intro y0 y1 y2 h e
    exact (EQ2_if e (EQ2_if (frV_FX12_keep__246 _ _ _ _ _ _ ih _ e) (EQ2_if (frV_FX12_keep__246 _ _ _ _ _ _ ih _ e) (frV_FX12_keep__246 _ _ _ _ _ _ ih _ e))))
theorem frV_FX12_keep__170 {h0 : ph_H} (x1 : Int32) (x2 : Int32) (s0 : Int32) (s1 : Int32) (h : ph_H) (e : EQ pV h0 h) : EQ pV h0 (FX12_keep__170 x1 x2 s0 s1 h).2 := (frV_FX12_keep__174   _ _ _ _ _ (EQ_s rfl e))
theorem frV_FX12_keep__63 {h0 : ph_H} (x1 : Int32) (x2 : Int32) (x3 : Int32) (h : ph_H) (e : EQ pV h0 h) : EQ pV h0 (FX12_keep__63 x1 x2 x3 h).2 := (EQ2_if (EQ_s rfl (EQ_s rfl (EQ_s rfl (EQ_s rfl (EQ_s rfl e))))) (EQ2_if (EQ_s rfl (EQ_s rfl e)) (EQ2_if (frV_FX12_keep__170 _ _ _ _  _ (EQ_s rfl (EQ_s rfl e))) (EQ2_if (frV_FX12_keep__170 _ _ _ _  _ (EQ_s rfl (EQ_s rfl e))) (frV_FX12_keep__170 _ _ _ _  _ (EQ_s rfl (EQ_s rfl e)))))))
theorem frV_FX12_keep__35 {h0 : ph_H} (x1 : Int32) (x2 : Int32) (x3 : Int32) (h : ph_H) (e : EQ pV h0 h) : EQ pV h0 (FX12_keep__35 x1 x2 x3 h).2 := (EQ2_if (EQ2_if e (frV_FX12_keep__63 _ _ _  _ e)) (frV_FX12_keep__63 _ _ _  _ e))
theorem frV_FX12_keep_ {h0 : ph_H} (a0 : Int32) (a1 : Int32) (a2 : Int32) (h : ph_H) (e : EQ pV h0 h) : EQ pV h0 (FX12_keep_ a0 a1 a2 h).2 := (EQ2_if (EQ_s rfl e) (EQ2_if (EQ_s rfl e) (EQ2_if (frV_FX12_keep__35 _ _ _  _ (EQ_s rfl e)) (EQ2_if (EQ_s rfl e) (frV_FX12_keep__35 _ _ _  _ (EQ_s rfl e))))))
theorem frV_FX12_make_58 {h0 : ph_H}  : ∀ (q : Nat) (y0 : Int32) (y1 : Int32) (y2 : Int32) (h : ph_H), EQ pV h0 h → EQ pV h0 (FX12_make_58  q y0 y1 y2 h).2 := by
  intro q
  induction q with
  | zero =>
    intro y0 y1 y2 h e
    exact e
  | succ q ih =>
    intro y0 y1 y2 h e
    exact (EQ2_if e (ih _ _ _ _ (EQ_s rfl e)))
theorem frV_FX12_make {h0 : ph_H} (a0 : Int32) (a1 : Int32) (a2 : Int32) (h : ph_H) (e : EQ pV h0 h) : EQ pV h0 (FX12_make a0 a1 a2 h).2 := (EQ2_if (EQ_s rfl e) (EQ2_if (EQ_s rfl e) (EQ2_if (EQ2_if (frV_FX12_make_58   _ _ _ _ _ (EQ_s rfl (EQ_s rfl (EQ_s rfl e)))) (EQ_s rfl e)) (EQ_s rfl e))))
theorem frV_FX12_element_62 {h0 : ph_H} (x1 : Int32) (x2 : Int32) (x3 : Int32) (s0 : Int32) (h : ph_H) (e : EQ pV h0 h) : EQ pV h0 (FX12_element_62 x1 x2 x3 s0 h).2 := (EQ2_if (EQ_s rfl e) (EQ_s rfl e))
theorem frV_FX12_element_40 {h0 : ph_H} (x1 : Int32) (x2 : Int32) (s0 : Int32) (h : ph_H) (e : EQ pV h0 h) : EQ pV h0 (FX12_element_40 x1 x2 s0 h).2 := (EQ2_if (frV_FX12_element_62 _ _ _ _  _ e) (EQ2_if (frV_FX12_element_62 _ _ _ _  _ e) (frV_FX12_element_62 _ _ _ _  _ e)))
theorem frV_FX12_element_39 {h0 : ph_H} (x1 : Int32) (x2 : Int32) (h : ph_H) (e : EQ pV h0 h) : EQ pV h0 (FX12_element_39 x1 x2 h).2 := (frV_FX12_element_40 _ _ _  _ e)
theorem frV_FX12_element {h0 : ph_H} (a0 : Int32) (a1 : Int32) (h : ph_H) (e : EQ pV h0 h) : EQ pV h0 (FX12_element a0 a1 h).2 := (EQ2_if (frV_FX12_element_39 _ _  _ e) (EQ2_if (frV_FX12_element_39 _ _  _ e) (EQ2_if (frV_FX12_element_39 _ _  _ e) (frV_FX12_element_40 _ _ _  _ e))))
theorem frV_FX12_copy_136 {h0 : ph_H}  : ∀ (q : Nat) (y0 : Int32) (y1 : Int32) (y2 : Int32) (y3 : Int32) (h : ph_H), EQ pV h0 h → EQ pV h0 (FX12_copy_136  q y0 y1 y2 y3 h).2 := by
  intro q
  induction q with
  | zero =>
    intro y0 y1 y2 y3 h e
    exact e
  | succ q ih =>
    intro y0 y1 y2 y3 h e
    exact (EQ2_if e (ih _ _ _ _ _ (EQ_s rfl e)))
theorem frV_FX12_copy_99 {h0 : ph_H}  : ∀ (q : Nat) (y0 : Int32) (y1 : Int32) (y2 : Int32) (y3 : Int32) (y4 : Int32) (y5 : Int32) (h : ph_H), EQ pV h0 h → EQ pV h0 (FX12_copy_99  q y0 y1 y2 y3 y4 y5 h).2 := by
  intro q
  induction q with
  | zero =>
    intro y0 y1 y2 y3 y4 y5 h e
    exact e
  | succ q ih =>
    intro y0 y1 y2 y3 y4 y5 h e
    exact (EQ2_if (frV_FX12_copy_136   _ _ _ _ _ _ e) (ih _ _ _ _ _ _ _ (EQ_s rfl e)))
theorem frV_FX12_copy {h0 : ph_H} (a0 : Int32) (a1 : Int32) (a2 : Int32) (a3 : Int32) (a4 : Int32) (h : ph_H) (e : EQ pV h0 h) : EQ pV h0 (FX12_copy a0 a1 a2 a3 a4 h).2 := (EQ2_if (EQ_s rfl e) (EQ2_if (EQ_s rfl e) (EQ2_if (EQ_s rfl e) (EQ2_if (EQ_s rfl e) (EQ2_if (EQ_s rfl e) (EQ2_if (EQ2_if (EQ_s rfl e) (EQ2_if (EQ_s rfl e) (frV_FX12_copy_99   _ _ _ _ _ _ _ _ (EQ_s rfl e)))) (EQ_s rfl e)))))))
theorem frV_FX12_weight {h0 : ph_H} (a0 : Int32) (h : ph_H) (e : EQ pV h0 h) : EQ pV h0 (FX12_weight a0 h).2 := (EQ2_if (EQ2_if (EQ_s rfl e) (EQ2_if (EQ_s rfl e) (EQ_s rfl e))) (EQ_s rfl e))
theorem frV_FX12_toss {h0 : ph_H} (a0 : Int32) (h : ph_H) (e : EQ pV h0 h) : EQ pV h0 (FX12_toss a0 h).2 := (EQ2_if (EQ2_if (EQ_s rfl e) (EQ_s rfl e)) (EQ_s rfl e))
def pVP (k i : Nat) : Bool := match k with
  | 0 => i == 7 || i == 9 || i == 36 || i == 37 || i == 38 || i == 39 || i == 40 || i == 41 || i == 42 || i == 60 || i == 67 || i == 69 || i == 70 || i == 73
  | 1 => true
  | 2 => true
  | 3 => true
  | 4 => true
  | 5 => true
  | 6 => true
  | 7 => true
  | 8 => true
  | 9 => true
  | 20 => true
  | 21 => true
  | 22 => true
  | 23 => true
  | 24 => true
  | 25 => true
  | 26 => true
  | 27 => true
  | 28 => true
  | 29 => true
  | 30 => true
  | 31 => true
  | 32 => true
  | 33 => true
  | 34 => true
  | 35 => true
  | 36 => true
  | 37 => true
  | 38 => true
  | 40 => true
  | 41 => true
  | _ => false
theorem frVP_FX12_begin_36 {h0 : ph_H} (L2 : Int32 → ph_H → ph_H) (x1 : Int32) (s0 : Int32) (s1 : Int32) (hL2 : ∀ (y0 : Int32) (h : ph_H), EQ pVP h0 h → EQ pVP h0 (L2 y0 h)) (h : ph_H) (e : EQ pVP h0 h) : EQ pVP h0 (FX12_begin_36 L2 x1 s0 s1 h) := (hL2 _ _ (EQ_s rfl e))
theorem frVP_FX12_begin_85 {h0 : ph_H} (L45 : Int32 → ph_H → ph_H) (x1 : Int32) (s0 : Int32) (s1 : Int32) (hL45 : ∀ (y0 : Int32) (h : ph_H), EQ pVP h0 h → EQ pVP h0 (L45 y0 h)) (h : ph_H) (e : EQ pVP h0 h) : EQ pVP h0 (FX12_begin_85 L45 x1 s0 s1 h) := (hL45 _ _ (EQ_s rfl (EQ_s rfl (EQ_s rfl e))))
theorem frVP_FX12_begin_70 {h0 : ph_H} (L45 : Int32 → ph_H → ph_H) (x1 : Int32) (s0 : Int32) (s1 : Int32) (hL45 : ∀ (y0 : Int32) (h : ph_H), EQ pVP h0 h → EQ pVP h0 (L45 y0 h)) (h : ph_H) (e : EQ pVP h0 h) : EQ pVP h0 (FX12_begin_70 L45 x1 s0 s1 h) := (EQ_if (frVP_FX12_begin_85 _ _ _ _ hL45 _ (EQ_s rfl e)) (frVP_FX12_begin_85 _ _ _ _ hL45 _ (EQ_s rfl e)))
theorem frVP_FX12_begin_45 {h0 : ph_H}  : ∀ (q : Nat) (y0 : Int32) (h : ph_H), EQ pVP h0 h → EQ pVP h0 (FX12_begin_45  q y0 h) := by
  intro q
  induction q with
  | zero =>
    intro y0 h e
    exact e
  | succ q ih =>
    intro y0 h e
    exact (EQ_if (EQ_s rfl (EQ_s rfl (EQ_s rfl (EQ_s rfl (EQ_s rfl (EQ_s rfl e)))))) (EQ_if (frVP_FX12_begin_70 _ _ _ _ ih _ e) (frVP_FX12_begin_70 _ _ _ _ ih _ e)))
theorem frVP_FX12_begin_2 {h0 : ph_H}  : ∀ (q : Nat) (y0 : Int32) (h : ph_H), EQ pVP h0 h → EQ pVP h0 (FX12_begin_2  q y0 h) := by
  intro q
  induction q with
  | zero =>
    intro y0 h e
    exact e
  | succ q ih =>
    intro y0 h e
    exact (EQ_if (frVP_FX12_begin_45   _ _ _ e) (EQ_if (frVP_FX12_begin_36 _ _ _ _ ih _ (EQ_s rfl e)) (frVP_FX12_begin_36 _ _ _ _ ih _ (EQ_s rfl e))))
theorem frVP_FX12_begin {h0 : ph_H}  (h : ph_H) (e : EQ pVP h0 h) : EQ pVP h0 (FX12_begin h) := (frVP_FX12_begin_2   _ _ _ e)
theorem frVP_FX12_goTo_19 {h0 : ph_H} (s0 : Int32) (h : ph_H) (e : EQ pVP h0 h) : EQ pVP h0 (FX12_goTo_19 s0 h) := (EQ_s rfl e)
theorem frVP_FX12_goTo {h0 : ph_H} (a0 : Int32) (a1 : Int32) (h : ph_H) (e : EQ pVP h0 h) : EQ pVP h0 (FX12_goTo a0 a1 h) := (EQ_if (frVP_FX12_goTo_19 _  _ e) (EQ_if (EQ_s rfl e) (frVP_FX12_goTo_19 _  _ e)))
theorem frVP_FX12_set {h0 : ph_H} (a0 : Int32) (a1 : Int32) (a2 : Int32) (h : ph_H) (e : EQ pVP h0 h) : EQ pVP h0 (FX12_set a0 a1 a2 h) := (EQ_s rfl (EQ_s rfl e))
theorem frVP_FX12_newThing_29 {h0 : ph_H}  : ∀ (q : Nat) (y0 : Int32) (y1 : Int32) (h : ph_H), EQ pVP h0 h → EQ pVP h0 (FX12_newThing_29  q y0 y1 h).2 := by
  intro q
  induction q with
  | zero =>
    intro y0 y1 h e
    exact e
  | succ q ih =>
    intro y0 y1 h e
    exact (EQ2_if (EQ_s rfl e) (ih _ _ _ (EQ_s rfl e)))
theorem frVP_FX12_newThing {h0 : ph_H} (a0 : Int32) (a1 : Int32) (h : ph_H) (e : EQ pVP h0 h) : EQ pVP h0 (FX12_newThing a0 a1 h).2 := (frVP_FX12_newThing_29   _ _ _ _ (EQ_s rfl (EQ_s rfl (EQ_s rfl e))))
theorem frVP_FX12_work_88 {h0 : ph_H}  (h : ph_H) (e : EQ pVP h0 h) : EQ pVP h0 (FX12_work_88 h) := e
theorem frVP_FX12_work_111 {h0 : ph_H}  (h : ph_H) (e : EQ pVP h0 h) : EQ pVP h0 (FX12_work_111 h) := e
theorem frVP_FX12_work_134 {h0 : ph_H}  (h : ph_H) (e : EQ pVP h0 h) : EQ pVP h0 (FX12_work_134 h) := e
theorem frVP_FX12_work_155 {h0 : ph_H}  (h : ph_H) (e : EQ pVP h0 h) : EQ pVP h0 (FX12_work_155 h) := e
theorem frVP_FX12_work_152 {h0 : ph_H} (s0 : Int32) (s1 : Int32) (s2 : Int32) (h : ph_H) (e : EQ pVP h0 h) : EQ pVP h0 (FX12_work_152 s0 s1 s2 h) := (frVP_FX12_work_155   _ (frVP_FX12_set _ _ _  _ e))
theorem frVP_FX12_work_212 {h0 : ph_H}  (h : ph_H) (e : EQ pVP h0 h) : EQ pVP h0 (FX12_work_212 h) := e
theorem frVP_FX12_work_435 {h0 : ph_H} (L391 : Int32 → Int32 → ph_H → ph_H) (x3 : Int32) (x6 : Int32) (hL391 : ∀ (y0 : Int32) (y1 : Int32) (h : ph_H), EQ pVP h0 h → EQ pVP h0 (L391 y0 y1 h)) (h : ph_H) (e : EQ pVP h0 h) : EQ pVP h0 (FX12_work_435 L391 x3 x6 h) := (hL391 _ _ _ e)
theorem frVP_FX12_work_391 {h0 : ph_H}  : ∀ (q : Nat) (y0 : Int32) (y1 : Int32) (h : ph_H), EQ pVP h0 h → EQ pVP h0 (FX12_work_391  q y0 y1 h) := by
  intro q
  induction q with
  | zero =>
    intro y0 y1 h e
    exact e
  | succ q ih =>
    intro y0 y1 h e
    exact (EQ_if e (EQ_if (frVP_FX12_work_435 _ _ _ ih _ (EQ_s rfl (EQ_s rfl e))) (frVP_FX12_work_435 _ _ _ ih _ e)))
theorem frVP_FX12_work {h0 : ph_H} (a0 : Int32) (a1 : Int32) (a2 : Int32) (a3 : Int32) (a4 : Int32) (h : ph_H) (e : EQ pVP h0 h) : EQ pVP h0 (FX12_work a0 a1 a2 a3 a4 h) := (EQ_if (frVP_FX12_work_88   _ (frVP_FX12_set _ _ _  _ e)) (EQ_if (frVP_FX12_work_111   _ (frVP_FX12_set _ _ _  _ e)) (EQ_if (frVP_FX12_work_134   _ (frVP_FX12_set _ _ _  _ e)) (EQ_if e (EQ_if e (EQ_if (frVP_FX12_work_152 _ _ _  _ (frVP_FX12_newThing _ _  _ e)) (EQ_if (frVP_FX12_work_212   _ (frVP_FX12_set _ _ _  _ (EQ_s rfl e))) (EQ_if (EQ_s rfl (EQ_s rfl e)) (EQ_if e (EQ_if (EQ_s rfl (EQ_s rfl (EQ_s rfl e))) (EQ_if (EQ_s rfl (EQ_s rfl (EQ_s rfl e))) (EQ_if (EQ_s rfl (EQ_s rfl (EQ_s rfl (EQ_s rfl e)))) (EQ_if (frVP_FX12_work_391   _ _ _ _ (EQ_s rfl (EQ_s rfl e))) e)))))))))))))
theorem frVP_FX12_workPlain_116 {h0 : ph_H}  (h : ph_H) (e : EQ pVP h0 h) : EQ pVP h0 (FX12_workPlain_116 h) := e
theorem frVP_FX12_workPlain_153 {h0 : ph_H}  (h : ph_H) (e : EQ pVP h0 h) : EQ pVP h0 (FX12_workPlain_153 h) := e
theorem frVP_FX12_workPlain_191 {h0 : ph_H}  (h : ph_H) (e : EQ pVP h0 h) : EQ pVP h0 (FX12_workPlain_191 h) := e
theorem frVP_FX12_workPlain_222 {h0 : ph_H}  (h : ph_H) (e : EQ pVP h0 h) : EQ pVP h0 (FX12_workPlain_222 h) := e
theorem frVP_FX12_workPlain_219 {h0 : ph_H} (s0 : Int32) (s1 : Int32) (s2 : Int32) (h : ph_H) (e : EQ pVP h0 h) : EQ pVP h0 (FX12_workPlain_219 s0 s1 s2 h) := (frVP_FX12_workPlain_222   _ (frVP_FX12_set _ _ _  _ e))
theorem frVP_FX12_workPlain_206 {h0 : ph_H} (x3 : Int32) (s0 : Int32) (h : ph_H) (e : EQ pVP h0 h) : EQ pVP h0 (FX12_workPlain_206 x3 s0 h) := (frVP_FX12_workPlain_219 _ _ _  _ (frVP_FX12_newThing _ _  _ e))
theorem frVP_FX12_workPlain_259 {h0 : ph_H}  (h : ph_H) (e : EQ pVP h0 h) : EQ pVP h0 (FX12_workPlain_259 h) := (EQ_s rfl e)
theorem frVP_FX12_workPlain_256 {h0 : ph_H} (s0 : Int32) (s1 : Int32) (s2 : Int32) (h : ph_H) (e : EQ pVP h0 h) : EQ pVP h0 (FX12_workPlain_256 s0 s1 s2 h) := (frVP_FX12_workPlain_259   _ (frVP_FX12_set _ _ _  _ e))
theorem frVP_FX12_workPlain {h0 : ph_H} (a0 : Int32) (a1 : Int32) (a2 : Int32) (a3 : Int32) (h : ph_H) (e : EQ pVP h0 h) : EQ pVP h0 (FX12_workPlain a0 a1 a2 a3 h) := (EQ_if (frVP_FX12_workPlain_116   _ (frVP_FX12_set _ _ _  _ e)) (EQ_if (frVP_FX12_workPlain_153   _ (frVP_FX12_set _ _ _  _ (EQ_s rfl e))) (EQ_if (frVP_FX12_workPlain_191   _ (frVP_FX12_set _ _ _  _ (EQ_s rfl e))) (EQ_if e (EQ_if e (EQ_if e (EQ_if e (EQ_if e (EQ_if e (EQ_if e (EQ_if e (EQ_if (EQ_if (frVP_FX12_workPlain_206 _ _  _ e) (frVP_FX12_workPlain_206 _ _  _ e)) (EQ_if e (EQ_if e (EQ_if e (EQ_if e (EQ_if (EQ_if (frVP_FX12_workPlain_256 _ _ _  _ e) (frVP_FX12_workPlain_256 _ _ _  _ e)) (EQ_if (EQ_s rfl (EQ_s rfl (EQ_s rfl e))) e))))))))))))))))))
theorem frVP_FX12_instruct_251 {h0 : ph_H} (s0 : Int32) (s1 : Int32) (h : ph_H) (e : EQ pVP h0 h) : EQ pVP h0 (FX12_instruct_251 s0 s1 h) := (frVP_FX12_goTo _ _  _ e)
theorem frVP_FX12_instruct_204 {h0 : ph_H} (x1 : Int32) (x2 : Int32) (x6 : Int32) (x7 : Int32) (h : ph_H) (e : EQ pVP h0 h) : EQ pVP h0 (FX12_instruct_204 x1 x2 x6 x7 h) := (EQ_if e (EQ_if (frVP_FX12_instruct_251 _ _  _ e) (EQ_if (frVP_FX12_instruct_251 _ _  _ e) (frVP_FX12_instruct_251 _ _  _ e))))
theorem frVP_FX12_instruct_195 {h0 : ph_H} (x1 : Int32) (x2 : Int32) (x3 : Int32) (x4 : Int32) (x6 : Int32) (x7 : Int32) (h : ph_H) (e : EQ pVP h0 h) : EQ pVP h0 (FX12_instruct_195 x1 x2 x3 x4 x6 x7 h) := (frVP_FX12_instruct_204 _ _ _ _  _ (frVP_FX12_workPlain _ _ _ _  _ e))
theorem frVP_FX12_instruct_177 {h0 : ph_H} (x1 : Int32) (x2 : Int32) (x3 : Int32) (x4 : Int32) (x5 : Int32) (x6 : Int32) (s0 : Int32) (h : ph_H) (e : EQ pVP h0 h) : EQ pVP h0 (FX12_instruct_177 x1 x2 x3 x4 x5 x6 s0 h) := (frVP_FX12_instruct_195 _ _ _ _ _ _  _ (frVP_FX12_work _ _ _ _ _  _ e))
theorem frVP_FX12_instruct_149 {h0 : ph_H} (x1 : Int32) (x2 : Int32) (x3 : Int32) (x4 : Int32) (x5 : Int32) (s0 : Int32) (h : ph_H) (e : EQ pVP h0 h) : EQ pVP h0 (FX12_instruct_149 x1 x2 x3 x4 x5 s0 h) := (EQ_if (frVP_FX12_instruct_177 _ _ _ _ _ _ _  _ e) (frVP_FX12_instruct_177 _ _ _ _ _ _ _  _ e))
theorem frVP_FX12_instruct_144 {h0 : ph_H} (x1 : Int32) (x2 : Int32) (x3 : Int32) (x4 : Int32) (x5 : Int32) (h : ph_H) (e : EQ pVP h0 h) : EQ pVP h0 (FX12_instruct_144 x1 x2 x3 x4 x5 h) := (frVP_FX12_instruct_149 _ _ _ _ _ _  _ e)
theorem frVP_FX12_instruct_148 {h0 : ph_H} (x1 : Int32) (x2 : Int32) (x3 : Int32) (x4 : Int32) (x5 : Int32) (h : ph_H) (e : EQ pVP h0 h) : EQ pVP h0 (FX12_instruct_148 x1 x2 x3 x4 x5 h) := (frVP_FX12_instruct_149 _ _ _ _ _ _  _ e)
theorem frVP_FX12_instruct_102 {h0 : ph_H} (x1 : Int32) (x2 : Int32) (x3 : Int32) (x4 : Int32) (x5 : Int32) (s0 : Int32) (h : ph_H) (e : EQ pVP h0 h) : EQ pVP h0 (FX12_instruct_102 x1 x2 x3 x4 x5 s0 h) := (EQ_if (EQ_if (frVP_FX12_instruct_144 _ _ _ _ _  _ (EQ_s rfl e)) (EQ_if (EQ_if (frVP_FX12_instruct_144 _ _ _ _ _  _ (EQ_s rfl e)) (frVP_FX12_instruct_148 _ _ _ _ _  _ (EQ_s rfl e))) (frVP_FX12_instruct_148 _ _ _ _ _  _ (EQ_s rfl e)))) (EQ_s rfl e))
theorem frVP_FX12_instruct_98 {h0 : ph_H} (x1 : Int32) (x2 : Int32) (x3 : Int32) (x4 : Int32) (x5 : Int32) (h : ph_H) (e : EQ pVP h0 h) : EQ pVP h0 (FX12_instruct_98 x1 x2 x3 x4 x5 h) := (frVP_FX12_instruct_102 _ _ _ _ _ _  _ e)
theorem frVP_FX12_instruct {h0 : ph_H} (a0 : Int32) (a1 : Int32) (h : ph_H) (e : EQ pVP h0 h) : EQ pVP h0 (FX12_instruct a0 a1 h) := (EQ_if (EQ_if (frVP_FX12_instruct_98 _ _ _ _ _  _ (EQ_s rfl e)) (frVP_FX12_instruct_102 _ _ _ _ _ _  _ (EQ_s rfl e))) (frVP_FX12_instruct_98 _ _ _ _ _  _ (EQ_s rfl e)))
theorem frVP_FX12_step_154 {h0 : ph_H} (x1 : Int32) (h : ph_H) (e : EQ pVP h0 h) : EQ pVP h0 (FX12_step_154 x1 h) := (EQ_s rfl (EQ_s rfl e))
theorem frVP_FX12_step_110 {h0 : ph_H} (x1 : Int32) (h : ph_H) (e : EQ pVP h0 h) : EQ pVP h0 (FX12_step_110 x1 h) := (frVP_FX12_step_154 _  _ e)
theorem frVP_FX12_step_148 {h0 : ph_H} (x1 : Int32) (x2 : Int32) (h : ph_H) (e : EQ pVP h0 h) : EQ pVP h0 (FX12_step_148 x1 x2 h) := (frVP_FX12_step_154 _  _ (frVP_FX12_instruct _ _  _ e))
theorem frVP_FX12_step {h0 : ph_H} (a0 : Int32) (h : ph_H) (e : EQ pVP h0 h) : EQ pVP h0 (FX12_step a0 h) := (EQ_if (EQ_if (EQ_if (frVP_FX12_step_148 _ _  _ (EQ_s rfl (EQ_s rfl (EQ_s rfl (EQ_s rfl (EQ_s rfl (EQ_s rfl e))))))) (EQ_if (EQ_s rfl (EQ_s rfl (EQ_s rfl (EQ_s rfl (EQ_s rfl (EQ_s rfl (EQ_s rfl e))))))) (frVP_FX12_step_148 _ _  _ (EQ_s rfl (EQ_s rfl (EQ_s rfl (EQ_s rfl (EQ_s rfl (EQ_s rfl e))))))))) (frVP_FX12_step_148 _ _  _ (EQ_s rfl (EQ_s rfl (EQ_s rfl (EQ_s rfl (EQ_s rfl (EQ_s rfl e)))))))) (frVP_FX12_step_110 _  _ (frVP_FX12_goTo _ _  _ (EQ_s rfl (EQ_s rfl (EQ_s rfl (EQ_s rfl (EQ_s rfl (EQ_s rfl (EQ_s rfl (EQ_s rfl (EQ_s rfl (EQ_s rfl e)))))))))))))
theorem frVP_FX12_play_242 {h0 : ph_H} (L83 : Int32 → Int32 → ph_H → Int32 × ph_H) (x1 : Int32) (x3 : Int32) (hL83 : ∀ (y0 : Int32) (y1 : Int32) (h : ph_H), EQ pVP h0 h → EQ pVP h0 (L83 y0 y1 h).2) (h : ph_H) (e : EQ pVP h0 h) : EQ pVP h0 (FX12_play_242 L83 x1 x3 h).2 := (hL83 _ _ _ e)
theorem frVP_FX12_play_203 {h0 : ph_H} (L83 : Int32 → Int32 → ph_H → Int32 × ph_H) (x1 : Int32) (x3 : Int32) (s0 : Int32) (hL83 : ∀ (y0 : Int32) (y1 : Int32) (h : ph_H), EQ pVP h0 h → EQ pVP h0 (L83 y0 y1 h).2) (h : ph_H) (e : EQ pVP h0 h) : EQ pVP h0 (FX12_play_203 L83 x1 x3 s0 h).2 := (frVP_FX12_play_242 _ _ _ hL83 _ (EQ_s rfl e))
theorem frVP_FX12_play_239 {h0 : ph_H} (L83 : Int32 → Int32 → ph_H → Int32 × ph_H) (x1 : Int32) (x3 : Int32) (s0 : Int32) (hL83 : ∀ (y0 : Int32) (y1 : Int32) (h : ph_H), EQ pVP h0 h → EQ pVP h0 (L83 y0 y1 h).2) (h : ph_H) (e : EQ pVP h0 h) : EQ pVP h0 (FX12_play_239 L83 x1 x3 s0 h).2 := (frVP_FX12_play_242 _ _ _ hL83 _ (EQ_s rfl e))
theorem frVP_FX12_play_215 {h0 : ph_H} (L83 : Int32 → Int32 → ph_H → Int32 × ph_H) (x1 : Int32) (x3 : Int32) (hL83 : ∀ (y0 : Int32) (y1 : Int32) (h : ph_H), EQ pVP h0 h → EQ pVP h0 (L83 y0 y1 h).2) (h : ph_H) (e : EQ pVP h0 h) : EQ pVP h0 (FX12_play_215 L83 x1 x3 h).2 := (EQ2_if (EQ2_if (frVP_FX12_play_239 _ _ _ _ hL83 _ e) (frVP_FX12_play_239 _ _ _ _ hL83 _ e)) (frVP_FX12_play_239 _ _ _ _ hL83 _ e))
theorem frVP_FX12_play_166 {h0 : ph_H} (L83 : Int32 → Int32 → ph_H → Int32 × ph_H) (x1 : Int32) (x3 : Int32) (x5 : Int32) (hL83 : ∀ (y0 : Int32) (y1 : Int32) (h : ph_H), EQ pVP h0 h → EQ pVP h0 (L83 y0 y1 h).2) (h : ph_H) (e : EQ pVP h0 h) : EQ pVP h0 (FX12_play_166 L83 x1 x3 x5 h).2 := (EQ2_if (EQ2_if (EQ2_if (frVP_FX12_play_203 _ _ _ _ hL83 _ e) (frVP_FX12_play_203 _ _ _ _ hL83 _ e)) (frVP_FX12_play_215 _ _ _ hL83 _ (frVP_FX12_step _  _ e))) (frVP_FX12_play_242 _ _ _ hL83 _ (EQ_s rfl e)))
theorem frVP_FX12_play_132 {h0 : ph_H} (L83 : Int32 → Int32 → ph_H → Int32 × ph_H) (x1 : Int32) (x3 : Int32) (x4 : Int32) (s0 : Int32) (hL83 : ∀ (y0 : Int32) (y1 : Int32) (h : ph_H), EQ pVP h0 h → EQ pVP h0 (L83 y0 y1 h).2) (h : ph_H) (e : EQ pVP h0 h) : EQ pVP h0 (FX12_play_132 L83 x1 x3 x4 s0 h).2 := (EQ2_if (frVP_FX12_play_166 _ _ _ _ hL83 _ e) (EQ2_if (frVP_FX12_play_166 _ _ _ _ hL83 _ e) (EQ2_if (frVP_FX12_play_242 _ _ _ hL83 _ (EQ_s rfl e)) (frVP_FX12_play_166 _ _ _ _ hL83 _ e))))
theorem frVP_FX12_play_103 {h0 : ph_H} (L83 : Int32 → Int32 → ph_H → Int32 × ph_H) (x1 : Int32) (x3 : Int32) (s0 : Int32) (hL83 : ∀ (y0 : Int32) (y1 : Int32) (h : ph_H), EQ pVP h0 h → EQ pVP h0 (L83 y0 y1 h).2) (h : ph_H) (e : EQ pVP h0 h) : EQ pVP h0 (FX12_play_103 L83 x1 x3 s0 h).2 := (EQ2_if (frVP_FX12_play_132 _ _ _ _ _ hL83 _ e) (frVP_FX12_play_132 _ _ _ _ _ hL83 _ e))
theorem frVP_FX12_play_83 {h0 : ph_H}  : ∀ (q : Nat) (y0 : Int32) (y1 : Int32) (h : ph_H), EQ pVP h0 h → EQ pVP h0 (FX12_play_83  q y0 y1 h).2 := by
  intro q
  induction q with
  | zero =>
    intro y0 y1 h e
    exact e
  | succ q ih =>
    intro y0 y1 h e
    exact (EQ2_if (EQ_s rfl e) (EQ2_if (frVP_FX12_play_103 _ _ _ _ ih _ e) (frVP_FX12_play_103 _ _ _ _ ih _ e)))
theorem frVP_FX12_play_82 {h0 : ph_H} (x1 : Int32) (s0 : Int32) (h : ph_H) (e : EQ pVP h0 h) : EQ pVP h0 (FX12_play_82 x1 s0 h).2 := (frVP_FX12_play_83   _ _ _ _ e)
theorem frVP_FX12_play_59 {h0 : ph_H} (x1 : Int32) (h : ph_H) (e : EQ pVP h0 h) : EQ pVP h0 (FX12_play_59 x1 h).2 := (EQ2_if (frVP_FX12_play_82 _ _  _ (EQ_s rfl e)) (frVP_FX12_play_82 _ _  _ (EQ_s rfl e)))
theorem frVP_FX12_play {h0 : ph_H} (a0 : Int32) (a1 : Int32) (h : ph_H) (e : EQ pVP h0 h) : EQ pVP h0 (FX12_play a0 a1 h).2 := (EQ2_if (EQ_s rfl e) (EQ2_if (EQ_s rfl e) (EQ2_if (EQ_s rfl e) (frVP_FX12_play_59 _  _ (frVP_FX12_begin   _ (EQ_s rfl (EQ_s rfl (EQ_s rfl e))))))))
def pVFi (k i : Nat) : Bool := match k with
  | 0 => i == 7 || i == 9 || i == 66 || i == 36 || i == 37 || i == 38 || i == 39 || i == 40 || i == 41 || i == 42 || i == 60
  | 1 => true
  | 2 => true
  | 3 => true
  | 4 => true
  | 5 => true
  | 6 => true
  | 7 => true
  | 8 => true
  | 9 => true
  | 20 => true
  | 21 => true
  | 22 => true
  | 23 => true
  | 24 => true
  | 25 => true
  | 26 => true
  | 27 => true
  | 28 => true
  | 29 => true
  | 30 => true
  | 31 => true
  | 32 => true
  | 33 => true
  | 34 => true
  | 35 => true
  | 36 => true
  | 37 => true
  | 38 => true
  | _ => false
theorem frVFi_FX12_begin_36 {h0 : ph_H} (L2 : Int32 → ph_H → ph_H) (x1 : Int32) (s0 : Int32) (s1 : Int32) (hL2 : ∀ (y0 : Int32) (h : ph_H), EQ pVFi h0 h → EQ pVFi h0 (L2 y0 h)) (h : ph_H) (e : EQ pVFi h0 h) : EQ pVFi h0 (FX12_begin_36 L2 x1 s0 s1 h) := (hL2 _ _ (EQ_s rfl e))
theorem frVFi_FX12_begin_85 {h0 : ph_H} (L45 : Int32 → ph_H → ph_H) (x1 : Int32) (s0 : Int32) (s1 : Int32) (hL45 : ∀ (y0 : Int32) (h : ph_H), EQ pVFi h0 h → EQ pVFi h0 (L45 y0 h)) (h : ph_H) (e : EQ pVFi h0 h) : EQ pVFi h0 (FX12_begin_85 L45 x1 s0 s1 h) := (hL45 _ _ (EQ_s rfl (EQ_s rfl (EQ_s rfl e))))
theorem frVFi_FX12_begin_70 {h0 : ph_H} (L45 : Int32 → ph_H → ph_H) (x1 : Int32) (s0 : Int32) (s1 : Int32) (hL45 : ∀ (y0 : Int32) (h : ph_H), EQ pVFi h0 h → EQ pVFi h0 (L45 y0 h)) (h : ph_H) (e : EQ pVFi h0 h) : EQ pVFi h0 (FX12_begin_70 L45 x1 s0 s1 h) := (EQ_if (frVFi_FX12_begin_85 _ _ _ _ hL45 _ (EQ_s rfl e)) (frVFi_FX12_begin_85 _ _ _ _ hL45 _ (EQ_s rfl e)))
theorem frVFi_FX12_begin_45 {h0 : ph_H}  : ∀ (q : Nat) (y0 : Int32) (h : ph_H), EQ pVFi h0 h → EQ pVFi h0 (FX12_begin_45  q y0 h) := by
  intro q
  induction q with
  | zero =>
    intro y0 h e
    exact e
  | succ q ih =>
    intro y0 h e
    exact (EQ_if (EQ_s rfl (EQ_s rfl (EQ_s rfl (EQ_s rfl (EQ_s rfl (EQ_s rfl e)))))) (EQ_if (frVFi_FX12_begin_70 _ _ _ _ ih _ e) (frVFi_FX12_begin_70 _ _ _ _ ih _ e)))
theorem frVFi_FX12_begin_2 {h0 : ph_H}  : ∀ (q : Nat) (y0 : Int32) (h : ph_H), EQ pVFi h0 h → EQ pVFi h0 (FX12_begin_2  q y0 h) := by
  intro q
  induction q with
  | zero =>
    intro y0 h e
    exact e
  | succ q ih =>
    intro y0 h e
    exact (EQ_if (frVFi_FX12_begin_45   _ _ _ e) (EQ_if (frVFi_FX12_begin_36 _ _ _ _ ih _ (EQ_s rfl e)) (frVFi_FX12_begin_36 _ _ _ _ ih _ (EQ_s rfl e))))
theorem frVFi_FX12_begin {h0 : ph_H}  (h : ph_H) (e : EQ pVFi h0 h) : EQ pVFi h0 (FX12_begin h) := (frVFi_FX12_begin_2   _ _ _ e)
theorem frVFi_FX12_goTo_19 {h0 : ph_H} (s0 : Int32) (h : ph_H) (e : EQ pVFi h0 h) : EQ pVFi h0 (FX12_goTo_19 s0 h) := (EQ_s rfl e)
theorem frVFi_FX12_goTo {h0 : ph_H} (a0 : Int32) (a1 : Int32) (h : ph_H) (e : EQ pVFi h0 h) : EQ pVFi h0 (FX12_goTo a0 a1 h) := (EQ_if (frVFi_FX12_goTo_19 _  _ e) (EQ_if (EQ_s rfl e) (frVFi_FX12_goTo_19 _  _ e)))
theorem frVFi_FX12_set {h0 : ph_H} (a0 : Int32) (a1 : Int32) (a2 : Int32) (h : ph_H) (e : EQ pVFi h0 h) : EQ pVFi h0 (FX12_set a0 a1 a2 h) := (EQ_s rfl (EQ_s rfl e))
theorem frVFi_FX12_newThing_29 {h0 : ph_H}  : ∀ (q : Nat) (y0 : Int32) (y1 : Int32) (h : ph_H), EQ pVFi h0 h → EQ pVFi h0 (FX12_newThing_29  q y0 y1 h).2 := by
  intro q
  induction q with
  | zero =>
    intro y0 y1 h e
    exact e
  | succ q ih =>
    intro y0 y1 h e
    exact (EQ2_if (EQ_s rfl e) (ih _ _ _ (EQ_s rfl e)))
theorem frVFi_FX12_newThing {h0 : ph_H} (a0 : Int32) (a1 : Int32) (h : ph_H) (e : EQ pVFi h0 h) : EQ pVFi h0 (FX12_newThing a0 a1 h).2 := (frVFi_FX12_newThing_29   _ _ _ _ (EQ_s rfl (EQ_s rfl (EQ_s rfl e))))
theorem frVFi_FX12_work_88 {h0 : ph_H}  (h : ph_H) (e : EQ pVFi h0 h) : EQ pVFi h0 (FX12_work_88 h) := e
theorem frVFi_FX12_work_111 {h0 : ph_H}  (h : ph_H) (e : EQ pVFi h0 h) : EQ pVFi h0 (FX12_work_111 h) := e
theorem frVFi_FX12_work_134 {h0 : ph_H}  (h : ph_H) (e : EQ pVFi h0 h) : EQ pVFi h0 (FX12_work_134 h) := e
theorem frVFi_FX12_work_155 {h0 : ph_H}  (h : ph_H) (e : EQ pVFi h0 h) : EQ pVFi h0 (FX12_work_155 h) := e
theorem frVFi_FX12_work_152 {h0 : ph_H} (s0 : Int32) (s1 : Int32) (s2 : Int32) (h : ph_H) (e : EQ pVFi h0 h) : EQ pVFi h0 (FX12_work_152 s0 s1 s2 h) := (frVFi_FX12_work_155   _ (frVFi_FX12_set _ _ _  _ e))
theorem frVFi_FX12_work_212 {h0 : ph_H}  (h : ph_H) (e : EQ pVFi h0 h) : EQ pVFi h0 (FX12_work_212 h) := e
theorem frVFi_FX12_work_435 {h0 : ph_H} (L391 : Int32 → Int32 → ph_H → ph_H) (x3 : Int32) (x6 : Int32) (hL391 : ∀ (y0 : Int32) (y1 : Int32) (h : ph_H), EQ pVFi h0 h → EQ pVFi h0 (L391 y0 y1 h)) (h : ph_H) (e : EQ pVFi h0 h) : EQ pVFi h0 (FX12_work_435 L391 x3 x6 h) := (hL391 _ _ _ e)
theorem frVFi_FX12_work_391 {h0 : ph_H}  : ∀ (q : Nat) (y0 : Int32) (y1 : Int32) (h : ph_H), EQ pVFi h0 h → EQ pVFi h0 (FX12_work_391  q y0 y1 h) := by
  intro q
  induction q with
  | zero =>
    intro y0 y1 h e
    exact e
  | succ q ih =>
    intro y0 y1 h e
    exact (EQ_if e (EQ_if (frVFi_FX12_work_435 _ _ _ ih _ (EQ_s rfl (EQ_s rfl e))) (frVFi_FX12_work_435 _ _ _ ih _ e)))
theorem frVFi_FX12_work {h0 : ph_H} (a0 : Int32) (a1 : Int32) (a2 : Int32) (a3 : Int32) (a4 : Int32) (h : ph_H) (e : EQ pVFi h0 h) : EQ pVFi h0 (FX12_work a0 a1 a2 a3 a4 h) := (EQ_if (frVFi_FX12_work_88   _ (frVFi_FX12_set _ _ _  _ e)) (EQ_if (frVFi_FX12_work_111   _ (frVFi_FX12_set _ _ _  _ e)) (EQ_if (frVFi_FX12_work_134   _ (frVFi_FX12_set _ _ _  _ e)) (EQ_if e (EQ_if e (EQ_if (frVFi_FX12_work_152 _ _ _  _ (frVFi_FX12_newThing _ _  _ e)) (EQ_if (frVFi_FX12_work_212   _ (frVFi_FX12_set _ _ _  _ (EQ_s rfl e))) (EQ_if (EQ_s rfl (EQ_s rfl e)) (EQ_if e (EQ_if (EQ_s rfl (EQ_s rfl (EQ_s rfl e))) (EQ_if (EQ_s rfl (EQ_s rfl (EQ_s rfl e))) (EQ_if (EQ_s rfl (EQ_s rfl (EQ_s rfl (EQ_s rfl e)))) (EQ_if (frVFi_FX12_work_391   _ _ _ _ (EQ_s rfl (EQ_s rfl e))) e)))))))))))))
theorem frVFi_FX12_workPlain_116 {h0 : ph_H}  (h : ph_H) (e : EQ pVFi h0 h) : EQ pVFi h0 (FX12_workPlain_116 h) := e
theorem frVFi_FX12_workPlain_153 {h0 : ph_H}  (h : ph_H) (e : EQ pVFi h0 h) : EQ pVFi h0 (FX12_workPlain_153 h) := e
theorem frVFi_FX12_workPlain_191 {h0 : ph_H}  (h : ph_H) (e : EQ pVFi h0 h) : EQ pVFi h0 (FX12_workPlain_191 h) := e
theorem frVFi_FX12_workPlain_222 {h0 : ph_H}  (h : ph_H) (e : EQ pVFi h0 h) : EQ pVFi h0 (FX12_workPlain_222 h) := e
theorem frVFi_FX12_workPlain_219 {h0 : ph_H} (s0 : Int32) (s1 : Int32) (s2 : Int32) (h : ph_H) (e : EQ pVFi h0 h) : EQ pVFi h0 (FX12_workPlain_219 s0 s1 s2 h) := (frVFi_FX12_workPlain_222   _ (frVFi_FX12_set _ _ _  _ e))
theorem frVFi_FX12_workPlain_206 {h0 : ph_H} (x3 : Int32) (s0 : Int32) (h : ph_H) (e : EQ pVFi h0 h) : EQ pVFi h0 (FX12_workPlain_206 x3 s0 h) := (frVFi_FX12_workPlain_219 _ _ _  _ (frVFi_FX12_newThing _ _  _ e))
theorem frVFi_FX12_workPlain_259 {h0 : ph_H}  (h : ph_H) (e : EQ pVFi h0 h) : EQ pVFi h0 (FX12_workPlain_259 h) := (EQ_s rfl e)
theorem frVFi_FX12_workPlain_256 {h0 : ph_H} (s0 : Int32) (s1 : Int32) (s2 : Int32) (h : ph_H) (e : EQ pVFi h0 h) : EQ pVFi h0 (FX12_workPlain_256 s0 s1 s2 h) := (frVFi_FX12_workPlain_259   _ (frVFi_FX12_set _ _ _  _ e))
theorem frVFi_FX12_workPlain {h0 : ph_H} (a0 : Int32) (a1 : Int32) (a2 : Int32) (a3 : Int32) (h : ph_H) (e : EQ pVFi h0 h) : EQ pVFi h0 (FX12_workPlain a0 a1 a2 a3 h) := (EQ_if (frVFi_FX12_workPlain_116   _ (frVFi_FX12_set _ _ _  _ e)) (EQ_if (frVFi_FX12_workPlain_153   _ (frVFi_FX12_set _ _ _  _ (EQ_s rfl e))) (EQ_if (frVFi_FX12_workPlain_191   _ (frVFi_FX12_set _ _ _  _ (EQ_s rfl e))) (EQ_if e (EQ_if e (EQ_if e (EQ_if e (EQ_if e (EQ_if e (EQ_if e (EQ_if e (EQ_if (EQ_if (frVFi_FX12_workPlain_206 _ _  _ e) (frVFi_FX12_workPlain_206 _ _  _ e)) (EQ_if e (EQ_if e (EQ_if e (EQ_if e (EQ_if (EQ_if (frVFi_FX12_workPlain_256 _ _ _  _ e) (frVFi_FX12_workPlain_256 _ _ _  _ e)) (EQ_if (EQ_s rfl (EQ_s rfl (EQ_s rfl e))) e))))))))))))))))))
theorem frVFi_FX12_instruct_251 {h0 : ph_H} (s0 : Int32) (s1 : Int32) (h : ph_H) (e : EQ pVFi h0 h) : EQ pVFi h0 (FX12_instruct_251 s0 s1 h) := (frVFi_FX12_goTo _ _  _ e)
theorem frVFi_FX12_instruct_204 {h0 : ph_H} (x1 : Int32) (x2 : Int32) (x6 : Int32) (x7 : Int32) (h : ph_H) (e : EQ pVFi h0 h) : EQ pVFi h0 (FX12_instruct_204 x1 x2 x6 x7 h) := (EQ_if e (EQ_if (frVFi_FX12_instruct_251 _ _  _ e) (EQ_if (frVFi_FX12_instruct_251 _ _  _ e) (frVFi_FX12_instruct_251 _ _  _ e))))
theorem frVFi_FX12_instruct_195 {h0 : ph_H} (x1 : Int32) (x2 : Int32) (x3 : Int32) (x4 : Int32) (x6 : Int32) (x7 : Int32) (h : ph_H) (e : EQ pVFi h0 h) : EQ pVFi h0 (FX12_instruct_195 x1 x2 x3 x4 x6 x7 h) := (frVFi_FX12_instruct_204 _ _ _ _  _ (frVFi_FX12_workPlain _ _ _ _  _ e))
theorem frVFi_FX12_instruct_177 {h0 : ph_H} (x1 : Int32) (x2 : Int32) (x3 : Int32) (x4 : Int32) (x5 : Int32) (x6 : Int32) (s0 : Int32) (h : ph_H) (e : EQ pVFi h0 h) : EQ pVFi h0 (FX12_instruct_177 x1 x2 x3 x4 x5 x6 s0 h) := (frVFi_FX12_instruct_195 _ _ _ _ _ _  _ (frVFi_FX12_work _ _ _ _ _  _ e))
theorem frVFi_FX12_instruct_149 {h0 : ph_H} (x1 : Int32) (x2 : Int32) (x3 : Int32) (x4 : Int32) (x5 : Int32) (s0 : Int32) (h : ph_H) (e : EQ pVFi h0 h) : EQ pVFi h0 (FX12_instruct_149 x1 x2 x3 x4 x5 s0 h) := (EQ_if (frVFi_FX12_instruct_177 _ _ _ _ _ _ _  _ e) (frVFi_FX12_instruct_177 _ _ _ _ _ _ _  _ e))
theorem frVFi_FX12_instruct_144 {h0 : ph_H} (x1 : Int32) (x2 : Int32) (x3 : Int32) (x4 : Int32) (x5 : Int32) (h : ph_H) (e : EQ pVFi h0 h) : EQ pVFi h0 (FX12_instruct_144 x1 x2 x3 x4 x5 h) := (frVFi_FX12_instruct_149 _ _ _ _ _ _  _ e)
theorem frVFi_FX12_instruct_148 {h0 : ph_H} (x1 : Int32) (x2 : Int32) (x3 : Int32) (x4 : Int32) (x5 : Int32) (h : ph_H) (e : EQ pVFi h0 h) : EQ pVFi h0 (FX12_instruct_148 x1 x2 x3 x4 x5 h) := (frVFi_FX12_instruct_149 _ _ _ _ _ _  _ e)
theorem frVFi_FX12_instruct_102 {h0 : ph_H} (x1 : Int32) (x2 : Int32) (x3 : Int32) (x4 : Int32) (x5 : Int32) (s0 : Int32) (h : ph_H) (e : EQ pVFi h0 h) : EQ pVFi h0 (FX12_instruct_102 x1 x2 x3 x4 x5 s0 h) := (EQ_if (EQ_if (frVFi_FX12_instruct_144 _ _ _ _ _  _ (EQ_s rfl e)) (EQ_if (EQ_if (frVFi_FX12_instruct_144 _ _ _ _ _  _ (EQ_s rfl e)) (frVFi_FX12_instruct_148 _ _ _ _ _  _ (EQ_s rfl e))) (frVFi_FX12_instruct_148 _ _ _ _ _  _ (EQ_s rfl e)))) (EQ_s rfl e))
theorem frVFi_FX12_instruct_98 {h0 : ph_H} (x1 : Int32) (x2 : Int32) (x3 : Int32) (x4 : Int32) (x5 : Int32) (h : ph_H) (e : EQ pVFi h0 h) : EQ pVFi h0 (FX12_instruct_98 x1 x2 x3 x4 x5 h) := (frVFi_FX12_instruct_102 _ _ _ _ _ _  _ e)
theorem frVFi_FX12_instruct {h0 : ph_H} (a0 : Int32) (a1 : Int32) (h : ph_H) (e : EQ pVFi h0 h) : EQ pVFi h0 (FX12_instruct a0 a1 h) := (EQ_if (EQ_if (frVFi_FX12_instruct_98 _ _ _ _ _  _ (EQ_s rfl e)) (frVFi_FX12_instruct_102 _ _ _ _ _ _  _ (EQ_s rfl e))) (frVFi_FX12_instruct_98 _ _ _ _ _  _ (EQ_s rfl e)))
theorem frVFi_FX12_step_154 {h0 : ph_H} (x1 : Int32) (h : ph_H) (e : EQ pVFi h0 h) : EQ pVFi h0 (FX12_step_154 x1 h) := (EQ_s rfl (EQ_s rfl e))
theorem frVFi_FX12_step_110 {h0 : ph_H} (x1 : Int32) (h : ph_H) (e : EQ pVFi h0 h) : EQ pVFi h0 (FX12_step_110 x1 h) := (frVFi_FX12_step_154 _  _ e)
theorem frVFi_FX12_step_148 {h0 : ph_H} (x1 : Int32) (x2 : Int32) (h : ph_H) (e : EQ pVFi h0 h) : EQ pVFi h0 (FX12_step_148 x1 x2 h) := (frVFi_FX12_step_154 _  _ (frVFi_FX12_instruct _ _  _ e))
theorem frVFi_FX12_step {h0 : ph_H} (a0 : Int32) (h : ph_H) (e : EQ pVFi h0 h) : EQ pVFi h0 (FX12_step a0 h) := (EQ_if (EQ_if (EQ_if (frVFi_FX12_step_148 _ _  _ (EQ_s rfl (EQ_s rfl (EQ_s rfl (EQ_s rfl (EQ_s rfl (EQ_s rfl e))))))) (EQ_if (EQ_s rfl (EQ_s rfl (EQ_s rfl (EQ_s rfl (EQ_s rfl (EQ_s rfl (EQ_s rfl e))))))) (frVFi_FX12_step_148 _ _  _ (EQ_s rfl (EQ_s rfl (EQ_s rfl (EQ_s rfl (EQ_s rfl (EQ_s rfl e))))))))) (frVFi_FX12_step_148 _ _  _ (EQ_s rfl (EQ_s rfl (EQ_s rfl (EQ_s rfl (EQ_s rfl (EQ_s rfl e)))))))) (frVFi_FX12_step_110 _  _ (frVFi_FX12_goTo _ _  _ (EQ_s rfl (EQ_s rfl (EQ_s rfl (EQ_s rfl (EQ_s rfl (EQ_s rfl (EQ_s rfl (EQ_s rfl (EQ_s rfl (EQ_s rfl e)))))))))))))
theorem frVFi_FX12_tryRun_38 {h0 : ph_H} (L12 : Int32 → Int32 → ph_H → Int32 × ph_H) (x1 : Int32) (hL12 : ∀ (y0 : Int32) (y1 : Int32) (h : ph_H), EQ pVFi h0 h → EQ pVFi h0 (L12 y0 y1 h).2) (h : ph_H) (e : EQ pVFi h0 h) : EQ pVFi h0 (FX12_tryRun_38 L12 x1 h).2 := (EQ2_if (hL12 _ _ _ e) (EQ2_if (EQ2_if e (EQ2_if e (EQ2_if e (EQ2_if e (EQ2_if e (hL12 _ _ _ e)))))) (hL12 _ _ _ e)))
theorem frVFi_FX12_tryRun_127 {h0 : ph_H} (x1 : Int32) (h : ph_H) (e : EQ pVFi h0 h) : EQ pVFi h0 (FX12_tryRun_127 x1 h).2 := (EQ2_if e e)
theorem frVFi_FX12_tryRun_12 {h0 : ph_H}  : ∀ (q : Nat) (y0 : Int32) (y1 : Int32) (h : ph_H), EQ pVFi h0 h → EQ pVFi h0 (FX12_tryRun_12  q y0 y1 h).2 := by
  intro q
  induction q with
  | zero =>
    intro y0 y1 h e
    exact e
  | succ q ih =>
    intro y0 y1 h e
    exact (EQ2_if (frVFi_FX12_tryRun_127 _  _ e) (EQ2_if (EQ2_if (frVFi_FX12_tryRun_127 _  _ e) (frVFi_FX12_tryRun_38 _ _ ih _ (frVFi_FX12_step _  _ e))) (frVFi_FX12_tryRun_127 _  _ e)))
theorem frVFi_FX12_tryRun_4 {h0 : ph_H}  (h : ph_H) (e : EQ pVFi h0 h) : EQ pVFi h0 (FX12_tryRun_4 h).2 := (frVFi_FX12_tryRun_12   _ _ _ _ e)
theorem frVFi_FX12_tryRun {h0 : ph_H}  (h : ph_H) (e : EQ pVFi h0 h) : EQ pVFi h0 (FX12_tryRun h).2 := (frVFi_FX12_tryRun_4   _ (frVFi_FX12_begin   _ e))
theorem frVFi_FX12_isOver_103 {h0 : ph_H}  (h : ph_H) (e : EQ pVFi h0 h) : EQ pVFi h0 (FX12_isOver_103 h).2 := e
theorem frVFi_FX12_isOver_85 {h0 : ph_H}  (h : ph_H) (e : EQ pVFi h0 h) : EQ pVFi h0 (FX12_isOver_85 h).2 := (EQ2_if (frVFi_FX12_isOver_103   _ e) (EQ2_if (frVFi_FX12_isOver_103   _ e) e))
theorem frVFi_FX12_isOver_42 {h0 : ph_H}  : ∀ (q : Nat) (y0 : Int32) (h : ph_H), EQ pVFi h0 h → EQ pVFi h0 (FX12_isOver_42  q y0 h).2 := by
  intro q
  induction q with
  | zero =>
    intro y0 h e
    exact e
  | succ q ih =>
    intro y0 h e
    exact (EQ2_if (frVFi_FX12_isOver_85   _ (EQ_s rfl e)) (ih _ _ (EQ_s rfl (EQ_s rfl e))))
theorem frVFi_FX12_isOver {h0 : ph_H}  (h : ph_H) (e : EQ pVFi h0 h) : EQ pVFi h0 (FX12_isOver h).2 := (EQ2_if (frVFi_FX12_isOver_85   _ (EQ_s rfl e)) (EQ2_if (frVFi_FX12_isOver_42   _ _ _ (EQ_s rfl (EQ_s rfl (EQ_s rfl e)))) (frVFi_FX12_isOver_85   _ (EQ_s rfl e))))
theorem frVFi_FX12_tryLast_57 {h0 : ph_H} (L3 : Int32 → Int32 → Int32 → ph_H → Int32 × ph_H) (L12 : Int32 → Int32 → Int32 → Int32 → ph_H → Int32 × ph_H) (x1 : Int32) (x3 : Int32) (x4 : Int32) (x5 : Int32) (hL3 : ∀ (y0 : Int32) (y1 : Int32) (y2 : Int32) (h : ph_H), EQ pVFi h0 h → EQ pVFi h0 (L3 y0 y1 y2 h).2) (hL12 : ∀ (y0 : Int32) (y1 : Int32) (y2 : Int32) (y3 : Int32) (h : ph_H), EQ pVFi h0 h → EQ pVFi h0 (L12 y0 y1 y2 y3 h).2) (h : ph_H) (e : EQ pVFi h0 h) : EQ pVFi h0 (FX12_tryLast_57 L3 L12 x1 x3 x4 x5 h).2 := (hL12 _ _ _ _ _ e)
theorem frVFi_FX12_tryLast_52 {h0 : ph_H} (L3 : Int32 → Int32 → Int32 → ph_H → Int32 × ph_H) (L12 : Int32 → Int32 → Int32 → Int32 → ph_H → Int32 × ph_H) (x1 : Int32) (x3 : Int32) (x4 : Int32) (x5 : Int32) (s0 : Int32) (hL3 : ∀ (y0 : Int32) (y1 : Int32) (y2 : Int32) (h : ph_H), EQ pVFi h0 h → EQ pVFi h0 (L3 y0 y1 y2 h).2) (hL12 : ∀ (y0 : Int32) (y1 : Int32) (y2 : Int32) (y3 : Int32) (h : ph_H), EQ pVFi h0 h → EQ pVFi h0 (L12 y0 y1 y2 y3 h).2) (h : ph_H) (e : EQ pVFi h0 h) : EQ pVFi h0 (FX12_tryLast_52 L3 L12 x1 x3 x4 x5 s0 h).2 := (EQ2_if (frVFi_FX12_tryLast_57 _ _ _ _ _ _ hL3 hL12 _ e) e)
theorem frVFi_FX12_tryLast_45 {h0 : ph_H} (L3 : Int32 → Int32 → Int32 → ph_H → Int32 × ph_H) (L12 : Int32 → Int32 → Int32 → Int32 → ph_H → Int32 × ph_H) (x1 : Int32) (x3 : Int32) (x4 : Int32) (x5 : Int32) (s0 : Int32) (hL3 : ∀ (y0 : Int32) (y1 : Int32) (y2 : Int32) (h : ph_H), EQ pVFi h0 h → EQ pVFi h0 (L3 y0 y1 y2 h).2) (hL12 : ∀ (y0 : Int32) (y1 : Int32) (y2 : Int32) (y3 : Int32) (h : ph_H), EQ pVFi h0 h → EQ pVFi h0 (L12 y0 y1 y2 y3 h).2) (h : ph_H) (e : EQ pVFi h0 h) : EQ pVFi h0 (FX12_tryLast_45 L3 L12 x1 x3 x4 x5 s0 h).2 := (EQ2_if (frVFi_FX12_tryLast_57 _ _ _ _ _ _ hL3 hL12 _ e) (frVFi_FX12_tryLast_52 _ _ _ _ _ _ _ hL3 hL12 _ (frVFi_FX12_isOver   _ e)))
theorem frVFi_FX12_tryLast_12 {h0 : ph_H} (L3 : Int32 → Int32 → Int32 → ph_H → Int32 × ph_H) (hL3 : ∀ (y0 : Int32) (y1 : Int32) (y2 : Int32) (h : ph_H), EQ pVFi h0 h → EQ pVFi h0 (L3 y0 y1 y2 h).2) : ∀ (q : Nat) (y0 : Int32) (y1 : Int32) (y2 : Int32) (y3 : Int32) (h : ph_H), EQ pVFi h0 h → EQ pVFi h0 (FX12_tryLast_12 L3 q y0 y1 y2 y3 h).2 := by
  intro q
  induction q with
  | zero =>
    intro y0 y1 y2 y3 h e
    exact e
  | succ q ih =>
    intro y0 y1 y2 y3 h e
    exact (EQ2_if (hL3 _ _ _ _ e) (frVFi_FX12_tryLast_45 _ _ _ _ _ _ _ hL3 ih _ (frVFi_FX12_tryRun   _ (EQ_s rfl (EQ_s rfl (EQ_s rfl e))))))
theorem frVFi_FX12_tryLast_3 {h0 : ph_H}  : ∀ (q : Nat) (y0 : Int32) (y1 : Int32) (y2 : Int32) (h : ph_H), EQ pVFi h0 h → EQ pVFi h0 (FX12_tryLast_3  q y0 y1 y2 h).2 := by
  intro q
  induction q with
  | zero =>
    intro y0 y1 y2 h e
    exact e
  | succ q ih =>
    intro y0 y1 y2 h e
    exact (EQ2_if e (frVFi_FX12_tryLast_12 _ ih _ _ _ _ _ _ e))
theorem frVFi_FX12_tryLast {h0 : ph_H} (a0 : Int32) (a1 : Int32) (a2 : Int32) (h : ph_H) (e : EQ pVFi h0 h) : EQ pVFi h0 (FX12_tryLast a0 a1 a2 h).2 := (frVFi_FX12_tryLast_3   _ _ _ _ _ e)
theorem frVFi_FX12_tryBoth_61 {h0 : ph_H} (L2 : Int32 → Int32 → ph_H → Int32 × ph_H) (L9 : Int32 → Int32 → Int32 → ph_H → Int32 × ph_H) (x1 : Int32) (x2 : Int32) (x3 : Int32) (hL2 : ∀ (y0 : Int32) (y1 : Int32) (h : ph_H), EQ pVFi h0 h → EQ pVFi h0 (L2 y0 y1 h).2) (hL9 : ∀ (y0 : Int32) (y1 : Int32) (y2 : Int32) (h : ph_H), EQ pVFi h0 h → EQ pVFi h0 (L9 y0 y1 y2 h).2) (h : ph_H) (e : EQ pVFi h0 h) : EQ pVFi h0 (FX12_tryBoth_61 L2 L9 x1 x2 x3 h).2 := (hL9 _ _ _ _ e)
theorem frVFi_FX12_tryBoth_56 {h0 : ph_H} (L2 : Int32 → Int32 → ph_H → Int32 × ph_H) (L9 : Int32 → Int32 → Int32 → ph_H → Int32 × ph_H) (x1 : Int32) (x2 : Int32) (x3 : Int32) (s0 : Int32) (hL2 : ∀ (y0 : Int32) (y1 : Int32) (h : ph_H), EQ pVFi h0 h → EQ pVFi h0 (L2 y0 y1 h).2) (hL9 : ∀ (y0 : Int32) (y1 : Int32) (y2 : Int32) (h : ph_H), EQ pVFi h0 h → EQ pVFi h0 (L9 y0 y1 y2 h).2) (h : ph_H) (e : EQ pVFi h0 h) : EQ pVFi h0 (FX12_tryBoth_56 L2 L9 x1 x2 x3 s0 h).2 := (EQ2_if (frVFi_FX12_tryBoth_61 _ _ _ _ _ hL2 hL9 _ e) e)
theorem frVFi_FX12_tryBoth_37 {h0 : ph_H} (L2 : Int32 → Int32 → ph_H → Int32 × ph_H) (L9 : Int32 → Int32 → Int32 → ph_H → Int32 × ph_H) (x1 : Int32) (x2 : Int32) (x3 : Int32) (s0 : Int32) (hL2 : ∀ (y0 : Int32) (y1 : Int32) (h : ph_H), EQ pVFi h0 h → EQ pVFi h0 (L2 y0 y1 h).2) (hL9 : ∀ (y0 : Int32) (y1 : Int32) (y2 : Int32) (h : ph_H), EQ pVFi h0 h → EQ pVFi h0 (L9 y0 y1 y2 h).2) (h : ph_H) (e : EQ pVFi h0 h) : EQ pVFi h0 (FX12_tryBoth_37 L2 L9 x1 x2 x3 s0 h).2 := (EQ2_if (frVFi_FX12_tryBoth_61 _ _ _ _ _ hL2 hL9 _ e) (frVFi_FX12_tryBoth_56 _ _ _ _ _ _ hL2 hL9 _ (frVFi_FX12_tryLast _ _ _  _ e)))
theorem frVFi_FX12_tryBoth_9 {h0 : ph_H} (L2 : Int32 → Int32 → ph_H → Int32 × ph_H) (hL2 : ∀ (y0 : Int32) (y1 : Int32) (h : ph_H), EQ pVFi h0 h → EQ pVFi h0 (L2 y0 y1 h).2) : ∀ (q : Nat) (y0 : Int32) (y1 : Int32) (y2 : Int32) (h : ph_H), EQ pVFi h0 h → EQ pVFi h0 (FX12_tryBoth_9 L2 q y0 y1 y2 h).2 := by
  intro q
  induction q with
  | zero =>
    intro y0 y1 y2 h e
    exact e
  | succ q ih =>
    intro y0 y1 y2 h e
    exact (EQ2_if (hL2 _ _ _ e) (frVFi_FX12_tryBoth_37 _ _ _ _ _ _ hL2 ih _ (frVFi_FX12_tryRun   _ (EQ_s rfl (EQ_s rfl (EQ_s rfl e))))))
theorem frVFi_FX12_tryBoth_2 {h0 : ph_H}  : ∀ (q : Nat) (y0 : Int32) (y1 : Int32) (h : ph_H), EQ pVFi h0 h → EQ pVFi h0 (FX12_tryBoth_2  q y0 y1 h).2 := by
  intro q
  induction q with
  | zero =>
    intro y0 y1 h e
    exact e
  | succ q ih =>
    intro y0 y1 h e
    exact (EQ2_if e (frVFi_FX12_tryBoth_9 _ ih _ _ _ _ _ e))
theorem frVFi_FX12_tryBoth {h0 : ph_H} (a0 : Int32) (h : ph_H) (e : EQ pVFi h0 h) : EQ pVFi h0 (FX12_tryBoth a0 h).2 := (frVFi_FX12_tryBoth_2   _ _ _ _ e)
theorem frVFi_FX12_find_119 {h0 : ph_H}  (h : ph_H) (e : EQ pVFi h0 h) : EQ pVFi h0 (FX12_find_119 h).2 := e
theorem frVFi_FX12_find_116 {h0 : ph_H} (s0 : Int32) (h : ph_H) (e : EQ pVFi h0 h) : EQ pVFi h0 (FX12_find_116 s0 h).2 := (EQ2_if e (frVFi_FX12_find_119   _ e))
theorem frVFi_FX12_find_98 {h0 : ph_H} (x1 : Int32) (x4 : Int32) (s0 : Int32) (h : ph_H) (e : EQ pVFi h0 h) : EQ pVFi h0 (FX12_find_98 x1 x4 s0 h).2 := (EQ2_if (EQ2_if (frVFi_FX12_find_119   _ e) (frVFi_FX12_find_116 _  _ (frVFi_FX12_tryBoth _  _ e))) (frVFi_FX12_find_119   _ e))
theorem frVFi_FX12_find_93 {h0 : ph_H} (x1 : Int32) (x4 : Int32) (h : ph_H) (e : EQ pVFi h0 h) : EQ pVFi h0 (FX12_find_93 x1 x4 h).2 := (frVFi_FX12_find_98 _ _ _  _ e)
theorem frVFi_FX12_find_90 {h0 : ph_H} (x1 : Int32) (x4 : Int32) (s0 : Int32) (h : ph_H) (e : EQ pVFi h0 h) : EQ pVFi h0 (FX12_find_90 x1 x4 s0 h).2 := (EQ2_if (frVFi_FX12_find_98 _ _ _  _ e) (frVFi_FX12_find_93 _ _  _ e))
theorem frVFi_FX12_find_71 {h0 : ph_H} (x1 : Int32) (x4 : Int32) (s0 : Int32) (h : ph_H) (e : EQ pVFi h0 h) : EQ pVFi h0 (FX12_find_71 x1 x4 s0 h).2 := (EQ2_if (EQ2_if (frVFi_FX12_find_93 _ _  _ e) (frVFi_FX12_find_90 _ _ _  _ (frVFi_FX12_tryLast _ _ _  _ e))) (frVFi_FX12_find_93 _ _  _ e))
theorem frVFi_FX12_find_60 {h0 : ph_H} (x1 : Int32) (s0 : Int32) (h : ph_H) (e : EQ pVFi h0 h) : EQ pVFi h0 (FX12_find_60 x1 s0 h).2 := (frVFi_FX12_find_71 _ _ _  _ (frVFi_FX12_isOver   _ e))
theorem frVFi_FX12_find {h0 : ph_H} (a0 : Int32) (a1 : Int32) (h : ph_H) (e : EQ pVFi h0 h) : EQ pVFi h0 (FX12_find a0 a1 h).2 := (EQ2_if (EQ_s rfl e) (EQ2_if (EQ_s rfl e) (frVFi_FX12_find_60 _ _  _ (frVFi_FX12_tryRun   _ (EQ_s rfl (EQ_s rfl (EQ_s rfl (EQ_s rfl (EQ_s rfl (EQ_s rfl e))))))))))
def pVN (k i : Nat) : Bool := match k with
  | 0 => i == 7 || i == 9 || i == 66 || i == 67 || i == 69 || i == 70 || i == 73
  | 1 => true
  | 2 => true
  | 3 => true
  | 4 => true
  | 5 => true
  | 6 => true
  | 7 => true
  | 8 => true
  | 9 => true
  | 40 => true
  | 41 => true
  | _ => false
theorem frVN_FX12_begin_36 {h0 : ph_H} (L2 : Int32 → ph_H → ph_H) (x1 : Int32) (s0 : Int32) (s1 : Int32) (hL2 : ∀ (y0 : Int32) (h : ph_H), EQ pVN h0 h → EQ pVN h0 (L2 y0 h)) (h : ph_H) (e : EQ pVN h0 h) : EQ pVN h0 (FX12_begin_36 L2 x1 s0 s1 h) := (hL2 _ _ (EQ_s rfl e))
theorem frVN_FX12_begin_85 {h0 : ph_H} (L45 : Int32 → ph_H → ph_H) (x1 : Int32) (s0 : Int32) (s1 : Int32) (hL45 : ∀ (y0 : Int32) (h : ph_H), EQ pVN h0 h → EQ pVN h0 (L45 y0 h)) (h : ph_H) (e : EQ pVN h0 h) : EQ pVN h0 (FX12_begin_85 L45 x1 s0 s1 h) := (hL45 _ _ (EQ_s rfl (EQ_s rfl (EQ_s rfl e))))
theorem frVN_FX12_begin_70 {h0 : ph_H} (L45 : Int32 → ph_H → ph_H) (x1 : Int32) (s0 : Int32) (s1 : Int32) (hL45 : ∀ (y0 : Int32) (h : ph_H), EQ pVN h0 h → EQ pVN h0 (L45 y0 h)) (h : ph_H) (e : EQ pVN h0 h) : EQ pVN h0 (FX12_begin_70 L45 x1 s0 s1 h) := (EQ_if (frVN_FX12_begin_85 _ _ _ _ hL45 _ (EQ_s rfl e)) (frVN_FX12_begin_85 _ _ _ _ hL45 _ (EQ_s rfl e)))
theorem frVN_FX12_begin_45 {h0 : ph_H}  : ∀ (q : Nat) (y0 : Int32) (h : ph_H), EQ pVN h0 h → EQ pVN h0 (FX12_begin_45  q y0 h) := by
  intro q
  induction q with
  | zero =>
    intro y0 h e
    exact e
  | succ q ih =>
    intro y0 h e
    exact (EQ_if (EQ_s rfl (EQ_s rfl (EQ_s rfl (EQ_s rfl (EQ_s rfl (EQ_s rfl e)))))) (EQ_if (frVN_FX12_begin_70 _ _ _ _ ih _ e) (frVN_FX12_begin_70 _ _ _ _ ih _ e)))
theorem frVN_FX12_begin_2 {h0 : ph_H}  : ∀ (q : Nat) (y0 : Int32) (h : ph_H), EQ pVN h0 h → EQ pVN h0 (FX12_begin_2  q y0 h) := by
  intro q
  induction q with
  | zero =>
    intro y0 h e
    exact e
  | succ q ih =>
    intro y0 h e
    exact (EQ_if (frVN_FX12_begin_45   _ _ _ e) (EQ_if (frVN_FX12_begin_36 _ _ _ _ ih _ (EQ_s rfl e)) (frVN_FX12_begin_36 _ _ _ _ ih _ (EQ_s rfl e))))
theorem frVN_FX12_begin {h0 : ph_H}  (h : ph_H) (e : EQ pVN h0 h) : EQ pVN h0 (FX12_begin h) := (frVN_FX12_begin_2   _ _ _ e)
theorem frVN_FX12_goTo_19 {h0 : ph_H} (s0 : Int32) (h : ph_H) (e : EQ pVN h0 h) : EQ pVN h0 (FX12_goTo_19 s0 h) := (EQ_s rfl e)
theorem frVN_FX12_goTo {h0 : ph_H} (a0 : Int32) (a1 : Int32) (h : ph_H) (e : EQ pVN h0 h) : EQ pVN h0 (FX12_goTo a0 a1 h) := (EQ_if (frVN_FX12_goTo_19 _  _ e) (EQ_if (EQ_s rfl e) (frVN_FX12_goTo_19 _  _ e)))
theorem frVN_FX12_set {h0 : ph_H} (a0 : Int32) (a1 : Int32) (a2 : Int32) (h : ph_H) (e : EQ pVN h0 h) : EQ pVN h0 (FX12_set a0 a1 a2 h) := (EQ_s rfl (EQ_s rfl e))
theorem frVN_FX12_newThing_29 {h0 : ph_H}  : ∀ (q : Nat) (y0 : Int32) (y1 : Int32) (h : ph_H), EQ pVN h0 h → EQ pVN h0 (FX12_newThing_29  q y0 y1 h).2 := by
  intro q
  induction q with
  | zero =>
    intro y0 y1 h e
    exact e
  | succ q ih =>
    intro y0 y1 h e
    exact (EQ2_if (EQ_s rfl e) (ih _ _ _ (EQ_s rfl e)))
theorem frVN_FX12_newThing {h0 : ph_H} (a0 : Int32) (a1 : Int32) (h : ph_H) (e : EQ pVN h0 h) : EQ pVN h0 (FX12_newThing a0 a1 h).2 := (frVN_FX12_newThing_29   _ _ _ _ (EQ_s rfl (EQ_s rfl (EQ_s rfl e))))
theorem frVN_FX12_work_88 {h0 : ph_H}  (h : ph_H) (e : EQ pVN h0 h) : EQ pVN h0 (FX12_work_88 h) := e
theorem frVN_FX12_work_111 {h0 : ph_H}  (h : ph_H) (e : EQ pVN h0 h) : EQ pVN h0 (FX12_work_111 h) := e
theorem frVN_FX12_work_134 {h0 : ph_H}  (h : ph_H) (e : EQ pVN h0 h) : EQ pVN h0 (FX12_work_134 h) := e
theorem frVN_FX12_work_155 {h0 : ph_H}  (h : ph_H) (e : EQ pVN h0 h) : EQ pVN h0 (FX12_work_155 h) := e
theorem frVN_FX12_work_152 {h0 : ph_H} (s0 : Int32) (s1 : Int32) (s2 : Int32) (h : ph_H) (e : EQ pVN h0 h) : EQ pVN h0 (FX12_work_152 s0 s1 s2 h) := (frVN_FX12_work_155   _ (frVN_FX12_set _ _ _  _ e))
theorem frVN_FX12_work_212 {h0 : ph_H}  (h : ph_H) (e : EQ pVN h0 h) : EQ pVN h0 (FX12_work_212 h) := e
theorem frVN_FX12_work_435 {h0 : ph_H} (L391 : Int32 → Int32 → ph_H → ph_H) (x3 : Int32) (x6 : Int32) (hL391 : ∀ (y0 : Int32) (y1 : Int32) (h : ph_H), EQ pVN h0 h → EQ pVN h0 (L391 y0 y1 h)) (h : ph_H) (e : EQ pVN h0 h) : EQ pVN h0 (FX12_work_435 L391 x3 x6 h) := (hL391 _ _ _ e)
theorem frVN_FX12_work_391 {h0 : ph_H}  : ∀ (q : Nat) (y0 : Int32) (y1 : Int32) (h : ph_H), EQ pVN h0 h → EQ pVN h0 (FX12_work_391  q y0 y1 h) := by
  intro q
  induction q with
  | zero =>
    intro y0 y1 h e
    exact e
  | succ q ih =>
    intro y0 y1 h e
    exact (EQ_if e (EQ_if (frVN_FX12_work_435 _ _ _ ih _ (EQ_s rfl (EQ_s rfl e))) (frVN_FX12_work_435 _ _ _ ih _ e)))
theorem frVN_FX12_work {h0 : ph_H} (a0 : Int32) (a1 : Int32) (a2 : Int32) (a3 : Int32) (a4 : Int32) (h : ph_H) (e : EQ pVN h0 h) : EQ pVN h0 (FX12_work a0 a1 a2 a3 a4 h) := (EQ_if (frVN_FX12_work_88   _ (frVN_FX12_set _ _ _  _ e)) (EQ_if (frVN_FX12_work_111   _ (frVN_FX12_set _ _ _  _ e)) (EQ_if (frVN_FX12_work_134   _ (frVN_FX12_set _ _ _  _ e)) (EQ_if e (EQ_if e (EQ_if (frVN_FX12_work_152 _ _ _  _ (frVN_FX12_newThing _ _  _ e)) (EQ_if (frVN_FX12_work_212   _ (frVN_FX12_set _ _ _  _ (EQ_s rfl e))) (EQ_if (EQ_s rfl (EQ_s rfl e)) (EQ_if e (EQ_if (EQ_s rfl (EQ_s rfl (EQ_s rfl e))) (EQ_if (EQ_s rfl (EQ_s rfl (EQ_s rfl e))) (EQ_if (EQ_s rfl (EQ_s rfl (EQ_s rfl (EQ_s rfl e)))) (EQ_if (frVN_FX12_work_391   _ _ _ _ (EQ_s rfl (EQ_s rfl e))) e)))))))))))))
theorem frVN_FX12_workPlain_116 {h0 : ph_H}  (h : ph_H) (e : EQ pVN h0 h) : EQ pVN h0 (FX12_workPlain_116 h) := e
theorem frVN_FX12_workPlain_153 {h0 : ph_H}  (h : ph_H) (e : EQ pVN h0 h) : EQ pVN h0 (FX12_workPlain_153 h) := e
theorem frVN_FX12_workPlain_191 {h0 : ph_H}  (h : ph_H) (e : EQ pVN h0 h) : EQ pVN h0 (FX12_workPlain_191 h) := e
theorem frVN_FX12_workPlain_222 {h0 : ph_H}  (h : ph_H) (e : EQ pVN h0 h) : EQ pVN h0 (FX12_workPlain_222 h) := e
theorem frVN_FX12_workPlain_219 {h0 : ph_H} (s0 : Int32) (s1 : Int32) (s2 : Int32) (h : ph_H) (e : EQ pVN h0 h) : EQ pVN h0 (FX12_workPlain_219 s0 s1 s2 h) := (frVN_FX12_workPlain_222   _ (frVN_FX12_set _ _ _  _ e))
theorem frVN_FX12_workPlain_206 {h0 : ph_H} (x3 : Int32) (s0 : Int32) (h : ph_H) (e : EQ pVN h0 h) : EQ pVN h0 (FX12_workPlain_206 x3 s0 h) := (frVN_FX12_workPlain_219 _ _ _  _ (frVN_FX12_newThing _ _  _ e))
theorem frVN_FX12_workPlain_259 {h0 : ph_H}  (h : ph_H) (e : EQ pVN h0 h) : EQ pVN h0 (FX12_workPlain_259 h) := (EQ_s rfl e)
theorem frVN_FX12_workPlain_256 {h0 : ph_H} (s0 : Int32) (s1 : Int32) (s2 : Int32) (h : ph_H) (e : EQ pVN h0 h) : EQ pVN h0 (FX12_workPlain_256 s0 s1 s2 h) := (frVN_FX12_workPlain_259   _ (frVN_FX12_set _ _ _  _ e))
theorem frVN_FX12_workPlain {h0 : ph_H} (a0 : Int32) (a1 : Int32) (a2 : Int32) (a3 : Int32) (h : ph_H) (e : EQ pVN h0 h) : EQ pVN h0 (FX12_workPlain a0 a1 a2 a3 h) := (EQ_if (frVN_FX12_workPlain_116   _ (frVN_FX12_set _ _ _  _ e)) (EQ_if (frVN_FX12_workPlain_153   _ (frVN_FX12_set _ _ _  _ (EQ_s rfl e))) (EQ_if (frVN_FX12_workPlain_191   _ (frVN_FX12_set _ _ _  _ (EQ_s rfl e))) (EQ_if e (EQ_if e (EQ_if e (EQ_if e (EQ_if e (EQ_if e (EQ_if e (EQ_if e (EQ_if (EQ_if (frVN_FX12_workPlain_206 _ _  _ e) (frVN_FX12_workPlain_206 _ _  _ e)) (EQ_if e (EQ_if e (EQ_if e (EQ_if e (EQ_if (EQ_if (frVN_FX12_workPlain_256 _ _ _  _ e) (frVN_FX12_workPlain_256 _ _ _  _ e)) (EQ_if (EQ_s rfl (EQ_s rfl (EQ_s rfl e))) e))))))))))))))))))
theorem frVN_FX12_instruct_251 {h0 : ph_H} (s0 : Int32) (s1 : Int32) (h : ph_H) (e : EQ pVN h0 h) : EQ pVN h0 (FX12_instruct_251 s0 s1 h) := (frVN_FX12_goTo _ _  _ e)
theorem frVN_FX12_instruct_204 {h0 : ph_H} (x1 : Int32) (x2 : Int32) (x6 : Int32) (x7 : Int32) (h : ph_H) (e : EQ pVN h0 h) : EQ pVN h0 (FX12_instruct_204 x1 x2 x6 x7 h) := (EQ_if e (EQ_if (frVN_FX12_instruct_251 _ _  _ e) (EQ_if (frVN_FX12_instruct_251 _ _  _ e) (frVN_FX12_instruct_251 _ _  _ e))))
theorem frVN_FX12_instruct_195 {h0 : ph_H} (x1 : Int32) (x2 : Int32) (x3 : Int32) (x4 : Int32) (x6 : Int32) (x7 : Int32) (h : ph_H) (e : EQ pVN h0 h) : EQ pVN h0 (FX12_instruct_195 x1 x2 x3 x4 x6 x7 h) := (frVN_FX12_instruct_204 _ _ _ _  _ (frVN_FX12_workPlain _ _ _ _  _ e))
theorem frVN_FX12_instruct_177 {h0 : ph_H} (x1 : Int32) (x2 : Int32) (x3 : Int32) (x4 : Int32) (x5 : Int32) (x6 : Int32) (s0 : Int32) (h : ph_H) (e : EQ pVN h0 h) : EQ pVN h0 (FX12_instruct_177 x1 x2 x3 x4 x5 x6 s0 h) := (frVN_FX12_instruct_195 _ _ _ _ _ _  _ (frVN_FX12_work _ _ _ _ _  _ e))
theorem frVN_FX12_instruct_149 {h0 : ph_H} (x1 : Int32) (x2 : Int32) (x3 : Int32) (x4 : Int32) (x5 : Int32) (s0 : Int32) (h : ph_H) (e : EQ pVN h0 h) : EQ pVN h0 (FX12_instruct_149 x1 x2 x3 x4 x5 s0 h) := (EQ_if (frVN_FX12_instruct_177 _ _ _ _ _ _ _  _ e) (frVN_FX12_instruct_177 _ _ _ _ _ _ _  _ e))
theorem frVN_FX12_instruct_144 {h0 : ph_H} (x1 : Int32) (x2 : Int32) (x3 : Int32) (x4 : Int32) (x5 : Int32) (h : ph_H) (e : EQ pVN h0 h) : EQ pVN h0 (FX12_instruct_144 x1 x2 x3 x4 x5 h) := (frVN_FX12_instruct_149 _ _ _ _ _ _  _ e)
theorem frVN_FX12_instruct_148 {h0 : ph_H} (x1 : Int32) (x2 : Int32) (x3 : Int32) (x4 : Int32) (x5 : Int32) (h : ph_H) (e : EQ pVN h0 h) : EQ pVN h0 (FX12_instruct_148 x1 x2 x3 x4 x5 h) := (frVN_FX12_instruct_149 _ _ _ _ _ _  _ e)
theorem frVN_FX12_instruct_102 {h0 : ph_H} (x1 : Int32) (x2 : Int32) (x3 : Int32) (x4 : Int32) (x5 : Int32) (s0 : Int32) (h : ph_H) (e : EQ pVN h0 h) : EQ pVN h0 (FX12_instruct_102 x1 x2 x3 x4 x5 s0 h) := (EQ_if (EQ_if (frVN_FX12_instruct_144 _ _ _ _ _  _ (EQ_s rfl e)) (EQ_if (EQ_if (frVN_FX12_instruct_144 _ _ _ _ _  _ (EQ_s rfl e)) (frVN_FX12_instruct_148 _ _ _ _ _  _ (EQ_s rfl e))) (frVN_FX12_instruct_148 _ _ _ _ _  _ (EQ_s rfl e)))) (EQ_s rfl e))
theorem frVN_FX12_instruct_98 {h0 : ph_H} (x1 : Int32) (x2 : Int32) (x3 : Int32) (x4 : Int32) (x5 : Int32) (h : ph_H) (e : EQ pVN h0 h) : EQ pVN h0 (FX12_instruct_98 x1 x2 x3 x4 x5 h) := (frVN_FX12_instruct_102 _ _ _ _ _ _  _ e)
theorem frVN_FX12_instruct {h0 : ph_H} (a0 : Int32) (a1 : Int32) (h : ph_H) (e : EQ pVN h0 h) : EQ pVN h0 (FX12_instruct a0 a1 h) := (EQ_if (EQ_if (frVN_FX12_instruct_98 _ _ _ _ _  _ (EQ_s rfl e)) (frVN_FX12_instruct_102 _ _ _ _ _ _  _ (EQ_s rfl e))) (frVN_FX12_instruct_98 _ _ _ _ _  _ (EQ_s rfl e)))
theorem frVN_FX12_step_154 {h0 : ph_H} (x1 : Int32) (h : ph_H) (e : EQ pVN h0 h) : EQ pVN h0 (FX12_step_154 x1 h) := (EQ_s rfl (EQ_s rfl e))
theorem frVN_FX12_step_110 {h0 : ph_H} (x1 : Int32) (h : ph_H) (e : EQ pVN h0 h) : EQ pVN h0 (FX12_step_110 x1 h) := (frVN_FX12_step_154 _  _ e)
theorem frVN_FX12_step_148 {h0 : ph_H} (x1 : Int32) (x2 : Int32) (h : ph_H) (e : EQ pVN h0 h) : EQ pVN h0 (FX12_step_148 x1 x2 h) := (frVN_FX12_step_154 _  _ (frVN_FX12_instruct _ _  _ e))
theorem frVN_FX12_step {h0 : ph_H} (a0 : Int32) (h : ph_H) (e : EQ pVN h0 h) : EQ pVN h0 (FX12_step a0 h) := (EQ_if (EQ_if (EQ_if (frVN_FX12_step_148 _ _  _ (EQ_s rfl (EQ_s rfl (EQ_s rfl (EQ_s rfl (EQ_s rfl (EQ_s rfl e))))))) (EQ_if (EQ_s rfl (EQ_s rfl (EQ_s rfl (EQ_s rfl (EQ_s rfl (EQ_s rfl (EQ_s rfl e))))))) (frVN_FX12_step_148 _ _  _ (EQ_s rfl (EQ_s rfl (EQ_s rfl (EQ_s rfl (EQ_s rfl (EQ_s rfl e))))))))) (frVN_FX12_step_148 _ _  _ (EQ_s rfl (EQ_s rfl (EQ_s rfl (EQ_s rfl (EQ_s rfl (EQ_s rfl e)))))))) (frVN_FX12_step_110 _  _ (frVN_FX12_goTo _ _  _ (EQ_s rfl (EQ_s rfl (EQ_s rfl (EQ_s rfl (EQ_s rfl (EQ_s rfl (EQ_s rfl (EQ_s rfl (EQ_s rfl (EQ_s rfl e)))))))))))))
theorem frVN_FX12_keep_171 {h0 : ph_H}  : ∀ (q : Nat) (y0 : Int32) (y1 : Int32) (h : ph_H), EQ pVN h0 h → EQ pVN h0 (FX12_keep_171  q y0 y1 h) := by
  intro q
  induction q with
  | zero =>
    intro y0 y1 h e
    exact e
  | succ q ih =>
    intro y0 y1 h e
    exact (EQ_if e (ih _ _ _ (EQ_s rfl e)))
theorem frVN_FX12_keep_104 {h0 : ph_H}  : ∀ (q : Nat) (y0 : Int32) (y1 : Int32) (h : ph_H), EQ pVN h0 h → EQ pVN h0 (FX12_keep_104  q y0 y1 h) := by
  intro q
  induction q with
  | zero =>
    intro y0 y1 h e
    exact e
  | succ q ih =>
    intro y0 y1 h e
    exact (EQ_if (frVN_FX12_keep_171   _ _ _ _ e) (ih _ _ _ (EQ_s rfl (EQ_s rfl (EQ_s rfl e)))))
theorem frVN_FX12_keep_50 {h0 : ph_H}  : ∀ (q : Nat) (y0 : Int32) (y1 : Int32) (h : ph_H), EQ pVN h0 h → EQ pVN h0 (FX12_keep_50  q y0 y1 h) := by
  intro q
  induction q with
  | zero =>
    intro y0 y1 h e
    exact e
  | succ q ih =>
    intro y0 y1 h e
    exact (EQ_if (frVN_FX12_keep_104   _ _ _ _ (EQ_s rfl e)) (ih _ _ _ (EQ_s rfl (EQ_s rfl e))))
theorem frVN_FX12_keep_2 {h0 : ph_H}  : ∀ (q : Nat) (y0 : Int32) (y1 : Int32) (h : ph_H), EQ pVN h0 h → EQ pVN h0 (FX12_keep_2  q y0 y1 h) := by
  intro q
  induction q with
  | zero =>
    intro y0 y1 h e
    exact e
  | succ q ih =>
    intro y0 y1 h e
    exact (EQ_if (frVN_FX12_keep_50   _ _ _ _ e) (ih _ _ _ (EQ_s rfl (EQ_s rfl e))))
theorem frVN_FX12_keep {h0 : ph_H} (a0 : Int32) (h : ph_H) (e : EQ pVN h0 h) : EQ pVN h0 (FX12_keep a0 h) := (frVN_FX12_keep_2   _ _ _ _ e)
theorem frVN_FX12_stepKept_182 {h0 : ph_H} (s0 : Int32) (s1 : Int32) (h : ph_H) (e : EQ pVN h0 h) : EQ pVN h0 (FX12_stepKept_182 s0 s1 h) := (frVN_FX12_keep _  _ (EQ_s rfl (EQ_s rfl e)))
theorem frVN_FX12_stepKept_158 {h0 : ph_H} (s0 : Int32) (s1 : Int32) (h : ph_H) (e : EQ pVN h0 h) : EQ pVN h0 (FX12_stepKept_158 s0 s1 h) := (EQ_if (frVN_FX12_stepKept_182 _ _  _ (EQ_s rfl e)) (frVN_FX12_stepKept_182 _ _  _ (EQ_s rfl e)))
theorem frVN_FX12_stepKept_133 {h0 : ph_H} (s0 : Int32) (s1 : Int32) (h : ph_H) (e : EQ pVN h0 h) : EQ pVN h0 (FX12_stepKept_133 s0 s1 h) := (EQ_if (frVN_FX12_stepKept_158 _ _  _ (EQ_s rfl e)) (frVN_FX12_stepKept_158 _ _  _ (EQ_s rfl e)))
theorem frVN_FX12_stepKept_73 {h0 : ph_H} (x1 : Int32) (h : ph_H) (e : EQ pVN h0 h) : EQ pVN h0 (FX12_stepKept_73 x1 h) := (EQ_if (frVN_FX12_stepKept_133 _ _  _ (EQ_s rfl (EQ_s rfl (EQ_s rfl e)))) (frVN_FX12_stepKept_133 _ _  _ (EQ_s rfl (EQ_s rfl (EQ_s rfl e)))))
theorem frVN_FX12_stepKept_53 {h0 : ph_H} (x1 : Int32) (x3 : Int32) (h : ph_H) (e : EQ pVN h0 h) : EQ pVN h0 (FX12_stepKept_53 x1 x3 h) := (EQ_if (frVN_FX12_stepKept_73 _  _ e) (frVN_FX12_stepKept_73 _  _ (EQ_s rfl e)))
theorem frVN_FX12_stepKept_48 {h0 : ph_H} (x1 : Int32) (x3 : Int32) (h : ph_H) (e : EQ pVN h0 h) : EQ pVN h0 (FX12_stepKept_48 x1 x3 h) := (frVN_FX12_stepKept_53 _ _  _ (frVN_FX12_step _  _ e))
theorem frVN_FX12_stepKept {h0 : ph_H} (a0 : Int32) (h : ph_H) (e : EQ pVN h0 h) : EQ pVN h0 (FX12_stepKept a0 h) := (EQ_if (frVN_FX12_stepKept_48 _ _  _ e) (frVN_FX12_stepKept_48 _ _  _ (EQ_s rfl (EQ_s rfl (EQ_s rfl e)))))
theorem frVN_FX12_run_91 {h0 : ph_H} (L31 : Int32 → ph_H → Int32 × ph_H) (L41 : Int32 → Int32 → ph_H → Int32 × ph_H) (x1 : Int32) (x2 : Int32) (hL31 : ∀ (y0 : Int32) (h : ph_H), EQ pVN h0 h → EQ pVN h0 (L31 y0 h).2) (hL41 : ∀ (y0 : Int32) (y1 : Int32) (h : ph_H), EQ pVN h0 h → EQ pVN h0 (L41 y0 y1 h).2) (h : ph_H) (e : EQ pVN h0 h) : EQ pVN h0 (FX12_run_91 L31 L41 x1 x2 h).2 := (hL41 _ _ _ e)
theorem frVN_FX12_run_97 {h0 : ph_H} (L31 : Int32 → ph_H → Int32 × ph_H) (x1 : Int32) (hL31 : ∀ (y0 : Int32) (h : ph_H), EQ pVN h0 h → EQ pVN h0 (L31 y0 h).2) (h : ph_H) (e : EQ pVN h0 h) : EQ pVN h0 (FX12_run_97 L31 x1 h).2 := (hL31 _ _ e)
theorem frVN_FX12_run_41 {h0 : ph_H} (L31 : Int32 → ph_H → Int32 × ph_H) (hL31 : ∀ (y0 : Int32) (h : ph_H), EQ pVN h0 h → EQ pVN h0 (L31 y0 h).2) : ∀ (q : Nat) (y0 : Int32) (y1 : Int32) (h : ph_H), EQ pVN h0 h → EQ pVN h0 (FX12_run_41 L31 q y0 y1 h).2 := by
  intro q
  induction q with
  | zero =>
    intro y0 y1 h e
    exact e
  | succ q ih =>
    intro y0 y1 h e
    exact (EQ2_if (frVN_FX12_run_97 _ _ hL31 _ e) (EQ2_if (EQ2_if (frVN_FX12_run_97 _ _ hL31 _ e) (EQ2_if (frVN_FX12_run_97 _ _ hL31 _ e) (frVN_FX12_run_91 _ _ _ _ hL31 ih _ (frVN_FX12_stepKept _  _ e)))) (frVN_FX12_run_97 _ _ hL31 _ e)))
theorem frVN_FX12_run_138 {h0 : ph_H} (L112 : Int32 → ph_H → Int32 × ph_H) (hL112 : ∀ (y0 : Int32) (h : ph_H), EQ pVN h0 h → EQ pVN h0 (L112 y0 h).2) (h : ph_H) (e : EQ pVN h0 h) : EQ pVN h0 (FX12_run_138 L112 h).2 := (hL112 _ _ e)
theorem frVN_FX12_run_195 {h0 : ph_H} (s0 : Int32) (h : ph_H) (e : EQ pVN h0 h) : EQ pVN h0 (FX12_run_195 s0 h).2 := (EQ_s rfl (EQ_s rfl (EQ_s rfl e)))
theorem frVN_FX12_run_150 {h0 : ph_H}  (h : ph_H) (e : EQ pVN h0 h) : EQ pVN h0 (FX12_run_150 h).2 := (EQ2_if (frVN_FX12_run_195 _  _ (EQ_s rfl (EQ_s rfl (EQ_s rfl (EQ_s rfl e))))) (frVN_FX12_run_195 _  _ (EQ_s rfl (EQ_s rfl (EQ_s rfl (EQ_s rfl e))))))
theorem frVN_FX12_run_112 {h0 : ph_H}  : ∀ (q : Nat) (y0 : Int32) (h : ph_H), EQ pVN h0 h → EQ pVN h0 (FX12_run_112  q y0 h).2 := by
  intro q
  induction q with
  | zero =>
    intro y0 h e
    exact e
  | succ q ih =>
    intro y0 h e
    exact (EQ2_if (frVN_FX12_run_150   _ e) (EQ2_if (EQ2_if (frVN_FX12_run_150   _ e) (frVN_FX12_run_138 _ ih _ (frVN_FX12_stepKept _  _ e))) (frVN_FX12_run_150   _ e)))
theorem frVN_FX12_run_31 {h0 : ph_H}  : ∀ (q : Nat) (y0 : Int32) (h : ph_H), EQ pVN h0 h → EQ pVN h0 (FX12_run_31  q y0 h).2 := by
  intro q
  induction q with
  | zero =>
    intro y0 h e
    exact e
  | succ q ih =>
    intro y0 h e
    exact (EQ2_if (frVN_FX12_run_112   _ _ _ e) (frVN_FX12_run_41 _ ih _ _ _ _ e))
theorem frVN_FX12_run_29 {h0 : ph_H}  (h : ph_H) (e : EQ pVN h0 h) : EQ pVN h0 (FX12_run_29 h).2 := (frVN_FX12_run_31   _ _ _ e)
theorem frVN_FX12_run_14 {h0 : ph_H}  (h : ph_H) (e : EQ pVN h0 h) : EQ pVN h0 (FX12_run_14 h).2 := (frVN_FX12_run_29   _ (frVN_FX12_keep _  _ (EQ_s rfl (EQ_s rfl e))))
theorem frVN_FX12_run {h0 : ph_H}  (h : ph_H) (e : EQ pVN h0 h) : EQ pVN h0 (FX12_run h).2 := (frVN_FX12_run_14   _ (frVN_FX12_begin   _ (EQ_s rfl (EQ_s rfl e))))
def pVR (k i : Nat) : Bool := match k with
  | 0 => i == 36 || i == 37 || i == 38 || i == 39 || i == 40 || i == 41 || i == 42 || i == 60 || i == 66 || i == 67 || i == 69 || i == 70 || i == 73
  | 20 => true
  | 21 => true
  | 22 => true
  | 23 => true
  | 24 => true
  | 25 => true
  | 26 => true
  | 27 => true
  | 28 => true
  | 29 => true
  | 30 => true
  | 31 => true
  | 32 => true
  | 33 => true
  | 34 => true
  | 35 => true
  | 36 => true
  | 37 => true
  | 38 => true
  | 40 => true
  | 41 => true
  | _ => false
theorem frVR_FX12_code {h0 : ph_H} (a0 : Int32) (a1 : Int32) (a2 : Int32) (a3 : Int32) (a4 : Int32) (h : ph_H) (e : EQ pVR h0 h) : EQ pVR h0 (FX12_code a0 a1 a2 a3 a4 h).2 := (EQ2_if (EQ_s rfl e) (EQ2_if (EQ_s rfl e) (EQ2_if (EQ_s rfl e) (EQ_s rfl (EQ_s rfl (EQ_s rfl (EQ_s rfl (EQ_s rfl (EQ_s rfl e)))))))))
theorem frVR_FX12_clear {h0 : ph_H} (a0 : Int32) (h : ph_H) (e : EQ pVR h0 h) : EQ pVR h0 (FX12_clear a0 h).2 := (EQ2_if (EQ_s rfl e) (EQ_s rfl (EQ_s rfl e)))
theorem frVR_FX12_cell {h0 : ph_H} (a0 : Int32) (a1 : Int32) (h : ph_H) (e : EQ pVR h0 h) : EQ pVR h0 (FX12_cell a0 a1 h).2 := (EQ2_if (EQ_s rfl e) (EQ_s rfl (EQ_s rfl e)))
theorem frVR_FX12_input {h0 : ph_H} (a0 : Int32) (h : ph_H) (e : EQ pVR h0 h) : EQ pVR h0 (FX12_input a0 h).2 := (EQ2_if (EQ_s rfl e) (EQ_s rfl (EQ_s rfl (EQ_s rfl e))))
theorem frVR_FX12_turn {h0 : ph_H} (a0 : Int32) (a1 : Int32) (h : ph_H) (e : EQ pVR h0 h) : EQ pVR h0 (FX12_turn a0 a1 h).2 := (EQ2_if (EQ_s rfl e) (EQ2_if (EQ_s rfl e) (EQ2_if (EQ_s rfl e) (EQ_s rfl (EQ_s rfl (EQ_s rfl (EQ_s rfl e)))))))
theorem frVR_FX12_freely {h0 : ph_H}  (h : ph_H) (e : EQ pVR h0 h) : EQ pVR h0 (FX12_freely h).2 := (EQ_s rfl (EQ_s rfl e))
def pVI (k i : Nat) : Bool := match k with
  | 0 => i == 7
  | 7 => true
  | _ => false
theorem frVI_FX12_code {h0 : ph_H} (a0 : Int32) (a1 : Int32) (a2 : Int32) (a3 : Int32) (a4 : Int32) (h : ph_H) (e : EQ pVI h0 h) : EQ pVI h0 (FX12_code a0 a1 a2 a3 a4 h).2 := (EQ2_if (EQ_s rfl e) (EQ2_if (EQ_s rfl e) (EQ2_if (EQ_s rfl e) (EQ_s rfl (EQ_s rfl (EQ_s rfl (EQ_s rfl (EQ_s rfl (EQ_s rfl e)))))))))
theorem frVI_FX12_clear {h0 : ph_H} (a0 : Int32) (h : ph_H) (e : EQ pVI h0 h) : EQ pVI h0 (FX12_clear a0 h).2 := (EQ2_if (EQ_s rfl e) (EQ_s rfl (EQ_s rfl e)))
theorem frVI_FX12_cell {h0 : ph_H} (a0 : Int32) (a1 : Int32) (h : ph_H) (e : EQ pVI h0 h) : EQ pVI h0 (FX12_cell a0 a1 h).2 := (EQ2_if (EQ_s rfl e) (EQ_s rfl (EQ_s rfl e)))
theorem frVI_FX12_turn {h0 : ph_H} (a0 : Int32) (a1 : Int32) (h : ph_H) (e : EQ pVI h0 h) : EQ pVI h0 (FX12_turn a0 a1 h).2 := (EQ2_if (EQ_s rfl e) (EQ2_if (EQ_s rfl e) (EQ2_if (EQ_s rfl e) (EQ_s rfl (EQ_s rfl (EQ_s rfl (EQ_s rfl e)))))))
theorem frVI_FX12_freely {h0 : ph_H}  (h : ph_H) (e : EQ pVI h0 h) : EQ pVI h0 (FX12_freely h).2 := (EQ_s rfl (EQ_s rfl e))
def pH11 (k i : Nat) : Bool := match k with
  | 0 => i == 11
  | _ => false
theorem pH11_57 (n i : Nat) : pH11 (57 + n) i = false := by
  unfold pH11
  split <;> first | omega | rfl
theorem frH_FX3_hold_oc1 {h0 : ph_H} (a0 : Int32) (a1 : Int32) (a2 : Int32) (h : ph_H) (e : EQ pH11 h0 h) : EQ pH11 h0 (FX3_hold_oc1 a0 a1 a2 h).2 := (EQ_s rfl (EQ_s rfl e))
theorem frH_FX3_getCell_oc1 {h0 : ph_H} (a0 : Int32) (a1 : Int32) (h : ph_H) (e : EQ pH11 h0 h) : EQ pH11 h0 (FX3_getCell_oc1 a0 a1 h).2 := (frH_FX3_hold_oc1 _ _ _  _ (EQ_s rfl e))
theorem frH_FX3_goTo_oc1 {h0 : ph_H} (a0 : Int32) (h : ph_H) (e : EQ pH11 h0 h) : EQ pH11 h0 (FX3_goTo_oc1 a0 h).2 := (EQ_s rfl e)
theorem frH_FX3_goUnless_oc1_25 {h0 : ph_H} (s0 : Int32) (h : ph_H) (e : EQ pH11 h0 h) : EQ pH11 h0 (FX3_goUnless_oc1_25 s0 h).2 := e
theorem frH_FX3_goUnless_oc1 {h0 : ph_H} (a0 : Int32) (a1 : Int32) (h : ph_H) (e : EQ pH11 h0 h) : EQ pH11 h0 (FX3_goUnless_oc1 a0 a1 h).2 := (EQ2_if (EQ2_if (frH_FX3_goUnless_oc1_25 _  _ (frH_FX3_goTo_oc1 _  _ e)) e) e)
theorem frH_FX3_free_oc1 {h0 : ph_H} (a0 : Int32) (h : ph_H) (e : EQ pH11 h0 h) : EQ pH11 h0 (FX3_free_oc1 a0 h).2 := (EQ_s rfl (EQ_s rfl (EQ_s rfl e)))
theorem frH_FX3_leaveLock_oc1 {h0 : ph_H} (a0 : Int32) (a1 : Int32) (h : ph_H) (e : EQ pH11 h0 h) : EQ pH11 h0 (FX3_leaveLock_oc1 a0 a1 h).2 := (EQ2_if (EQ2_if (frH_FX3_free_oc1 _  _ e) e) e)
theorem frH_FX3_lieDown_oc1 {h0 : ph_H} (a0 : Int32) (a1 : Int32) (h : ph_H) (e : EQ pH11 h0 h) : EQ pH11 h0 (FX3_lieDown_oc1 a0 a1 h).2 := (EQ2_if (EQ2_if (frH_FX3_free_oc1 _  _ (EQ_s rfl (EQ_s rfl (EQ_s rfl e)))) e) e)
theorem frH_FX3_makeThing_oc1 {h0 : ph_H} (a0 : Int32) (a1 : Int32) (a2 : Int32) (h : ph_H) (e : EQ pH11 h0 h) : EQ pH11 h0 (FX3_makeThing_oc1 a0 a1 a2 h).2 := (EQ_s rfl (EQ_s rfl (EQ_s rfl (EQ_s rfl (EQ_s rfl (EQ_s rfl e))))))
theorem frH_FX3_makeLock_oc1_22 {h0 : ph_H} (s0 : Int32) (s1 : Int32) (h : ph_H) (e : EQ pH11 h0 h) : EQ pH11 h0 (FX3_makeLock_oc1_22 s0 s1 h).2 := (frH_FX3_makeThing_oc1 _ _ _  _ e)
theorem frH_FX3_makeLock_oc1 {h0 : ph_H} (a0 : Int32) (a1 : Int32) (h : ph_H) (e : EQ pH11 h0 h) : EQ pH11 h0 (FX3_makeLock_oc1 a0 a1 h).2 := (EQ2_if (EQ2_if (frH_FX3_makeLock_oc1_22 _ _  _ e) (frH_FX3_makeLock_oc1_22 _ _  _ e)) e)
theorem frH_FX3_makeRow_oc1_44 {h0 : ph_H}  : ∀ (q : Nat) (y0 : Int32) (y1 : Int32) (y2 : Int32) (h : ph_H), EQ pH11 h0 h → EQ pH11 h0 (FX3_makeRow_oc1_44  q y0 y1 y2 h).2 := by
  intro q
  induction q with
  | zero =>
    intro y0 y1 y2 h e
    exact e
  | succ q ih =>
    intro y0 y1 y2 h e
    exact (EQ2_if (frH_FX3_makeThing_oc1 _ _ _  _ e) (ih _ _ _ _ (EQ_s rfl e)))
theorem frH_FX3_makeRow_oc1 {h0 : ph_H} (a0 : Int32) (a1 : Int32) (h : ph_H) (e : EQ pH11 h0 h) : EQ pH11 h0 (FX3_makeRow_oc1 a0 a1 h).2 := (EQ2_if (EQ2_if (EQ2_if e (EQ2_if (frH_FX3_makeRow_oc1_44   _ _ _ _ _ e) e)) e) e)
theorem frH_FX3_putCell_oc1 {h0 : ph_H} (a0 : Int32) (a1 : Int32) (h : ph_H) (e : EQ pH11 h0 h) : EQ pH11 h0 (FX3_putCell_oc1 a0 a1 h).2 := (frH_FX3_hold_oc1 _ _ _  _ (EQ_s rfl e))
theorem frH_FX3_readRow_oc1 {h0 : ph_H} (a0 : Int32) (a1 : Int32) (a2 : Int32) (h : ph_H) (e : EQ pH11 h0 h) : EQ pH11 h0 (FX3_readRow_oc1 a0 a1 a2 h).2 := (EQ2_if (EQ2_if (EQ2_if e (frH_FX3_hold_oc1 _ _ _  _ (EQ_s rfl e))) e) e)
theorem frH_FX3_reckon_oc1_58 {h0 : ph_H} (x2 : Int32) (s0 : Int32) (h : ph_H) (e : EQ pH11 h0 h) : EQ pH11 h0 (FX3_reckon_oc1_58 x2 s0 h).2 := (frH_FX3_hold_oc1 _ _ _  _ e)
theorem frH_FX3_reckon_oc1 {h0 : ph_H} (a0 : Int32) (a1 : Int32) (a2 : Int32) (h : ph_H) (e : EQ pH11 h0 h) : EQ pH11 h0 (FX3_reckon_oc1 a0 a1 a2 h).2 := (EQ2_if e (EQ2_if (frH_FX3_reckon_oc1_58 _ _  _ e) (EQ2_if (frH_FX3_reckon_oc1_58 _ _  _ e) (frH_FX3_reckon_oc1_58 _ _  _ e))))
theorem frH_FX3_startThread_oc1 {h0 : ph_H} (a0 : Int32) (h : ph_H) (e : EQ pH11 h0 h) : EQ pH11 h0 (FX3_startThread_oc1 a0 h).2 := (EQ2_if (EQ_s rfl (EQ_s rfl (EQ_s rfl e))) e)
theorem frH_FX3_takeInput_oc1 {h0 : ph_H} (a0 : Int32) (h : ph_H) (e : EQ pH11 h0 h) : EQ pH11 h0 (FX3_takeInput_oc1 a0 h).2 := (EQ2_if e (EQ2_if (frH_FX3_hold_oc1 _ _ _  _ (EQ_s rfl e)) e))
theorem frH_FX3_own_oc1 {h0 : ph_H} (a0 : Int32) (a1 : Int32) (h : ph_H) (e : EQ pH11 h0 h) : EQ pH11 h0 (FX3_own_oc1 a0 a1 h).2 := (EQ_s rfl (EQ_s rfl (EQ_s rfl e)))
theorem frH_FX3_takeLock_oc1 {h0 : ph_H} (a0 : Int32) (a1 : Int32) (h : ph_H) (e : EQ pH11 h0 h) : EQ pH11 h0 (FX3_takeLock_oc1 a0 a1 h).2 := (EQ2_if (EQ2_if e (frH_FX3_own_oc1 _ _  _ e)) e)
theorem frH_FX3_wakeSleepers_oc1_64 {h0 : ph_H} (L28 : Int32 → Int32 → ph_H → Int32 × ph_H) (x3 : Int32) (x4 : Int32) (hL28 : ∀ (y0 : Int32) (y1 : Int32) (h : ph_H), EQ pH11 h0 h → EQ pH11 h0 (L28 y0 y1 h).2) (h : ph_H) (e : EQ pH11 h0 h) : EQ pH11 h0 (FX3_wakeSleepers_oc1_64 L28 x3 x4 h).2 := (hL28 _ _ _ e)
theorem frH_FX3_wakeSleepers_oc1_28 {h0 : ph_H}  : ∀ (q : Nat) (y0 : Int32) (y1 : Int32) (h : ph_H), EQ pH11 h0 h → EQ pH11 h0 (FX3_wakeSleepers_oc1_28  q y0 y1 h).2 := by
  intro q
  induction q with
  | zero =>
    intro y0 y1 h e
    exact e
  | succ q ih =>
    intro y0 y1 h e
    exact (EQ2_if (EQ_s rfl e) (EQ2_if (EQ2_if (frH_FX3_wakeSleepers_oc1_64 _ _ _ ih _ (EQ_s rfl e)) (frH_FX3_wakeSleepers_oc1_64 _ _ _ ih _ e)) (frH_FX3_wakeSleepers_oc1_64 _ _ _ ih _ e)))
theorem frH_FX3_wakeSleepers_oc1 {h0 : ph_H} (a0 : Int32) (a1 : Int32) (h : ph_H) (e : EQ pH11 h0 h) : EQ pH11 h0 (FX3_wakeSleepers_oc1 a0 a1 h).2 := (EQ2_if (EQ2_if (frH_FX3_wakeSleepers_oc1_28   _ _ _ _ e) e) e)
theorem frH_FX3_writeRow_oc1 {h0 : ph_H} (a0 : Int32) (a1 : Int32) (a2 : Int32) (h : ph_H) (e : EQ pH11 h0 h) : EQ pH11 h0 (FX3_writeRow_oc1 a0 a1 a2 h).2 := (EQ2_if (EQ2_if e (EQ2_if e (EQ_s rfl (EQ_s rfl e)))) e)
theorem frH_FX3_perform_oc1_288 {h0 : ph_H} (s0 : Int32) (s1 : Int32) (h : ph_H) (e : EQ pH11 h0 h) : EQ pH11 h0 (FX3_perform_oc1_288 s0 s1 h).2 := (frH_FX3_makeLock_oc1 _ _  _ e)
theorem frH_FX3_perform_oc1 {h0 : ph_H} (a0 : Int32) (h : ph_H) (e : EQ pH11 h0 h) : EQ pH11 h0 (FX3_perform_oc1 a0 h).2 := (EQ2_if (frH_FX3_hold_oc1 _ _ _  _ e) (EQ2_if (frH_FX3_getCell_oc1 _ _  _ e) (EQ2_if (frH_FX3_putCell_oc1 _ _  _ e) (EQ2_if (frH_FX3_reckon_oc1 _ _ _  _ e) (EQ2_if (frH_FX3_reckon_oc1 _ _ _  _ e) (EQ2_if (frH_FX3_reckon_oc1 _ _ _  _ e) (EQ2_if (frH_FX3_goTo_oc1 _  _ e) (EQ2_if (frH_FX3_goUnless_oc1 _ _  _ e) (EQ2_if (frH_FX3_makeRow_oc1 _ _  _ e) (EQ2_if (frH_FX3_readRow_oc1 _ _ _  _ e) (EQ2_if (frH_FX3_writeRow_oc1 _ _ _  _ e) (EQ2_if (EQ2_if (frH_FX3_perform_oc1_288 _ _  _ e) (frH_FX3_perform_oc1_288 _ _  _ e)) (EQ2_if (frH_FX3_takeLock_oc1 _ _  _ e) (EQ2_if (frH_FX3_leaveLock_oc1 _ _  _ e) (EQ2_if (frH_FX3_lieDown_oc1 _ _  _ e) (EQ2_if (frH_FX3_wakeSleepers_oc1 _ _  _ e) (EQ2_if (frH_FX3_takeInput_oc1 _  _ e) (EQ2_if (frH_FX3_startThread_oc1 _  _ e) (EQ2_if e (frH_FX3_goTo_oc1 _  _ e))))))))))))))))))))
theorem frH_FX3_rise_oc1 {h0 : ph_H} (a0 : Int32) (h : ph_H) (e : EQ pH11 h0 h) : EQ pH11 h0 (FX3_rise_oc1 a0 h).2 := (frH_FX3_own_oc1 _ _  _ (EQ_s rfl e))
theorem frH_FX3_go_oc1_67 {h0 : ph_H} (x1 : Int32) (s0 : Int32) (h : ph_H) (e : EQ pH11 h0 h) : EQ pH11 h0 (FX3_go_oc1_67 x1 s0 h).2 := (EQ2_if (EQ_s rfl e) e)
theorem frH_FX3_go_oc1_59 {h0 : ph_H} (x1 : Int32) (s0 : Int32) (h : ph_H) (e : EQ pH11 h0 h) : EQ pH11 h0 (FX3_go_oc1_59 x1 s0 h).2 := (frH_FX3_go_oc1_67 _ _  _ e)
theorem frH_FX3_go_oc1 {h0 : ph_H} (a0 : Int32) (h : ph_H) (e : EQ pH11 h0 h) : EQ pH11 h0 (FX3_go_oc1 a0 h).2 := (EQ2_if e (EQ2_if (frH_FX3_go_oc1_59 _ _  _ (frH_FX3_rise_oc1 _  _ (EQ_s rfl (EQ_s rfl (EQ_s rfl (EQ_s rfl (EQ_s rfl e))))))) (frH_FX3_go_oc1_67 _ _  _ (frH_FX3_perform_oc1 _  _ (EQ_s rfl (EQ_s rfl (EQ_s rfl (EQ_s rfl (EQ_s rfl e)))))))))
end MG_48_x34F1
section MG_48_x35B2
/-! THE RUN on both sides: turns, then freely, then how it was over -/
theorem who21 {z : zT} {h g : ph_H} (R : RC h g) (I : IM z g) : ∀ (q : Nat) (x : Int32), iv 0 4 x → FX3_whoGoes_s_21 q x h = FX12_free_12 q x g
  | 0, x, f => rfl
  | q + 1, x, f => by
    have k1 : (1 : Int32).toInt = 1 := by decide
    have k4 : (4 : Int32).toInt = 4 := by decide
    unfold iv at f
    unfold FX3_whoGoes_s_21 FX12_free_12
    by_cases c : 4 ≤ x
    · rw [if_pos c, if_pos c]
    · rw [if_neg c, if_neg c]
      rw [Int32.le_iff_toInt_le, k4] at c
      rw [canGo_eq R I (t := x) ⟨f.1, by omega⟩, who21 R I q (x + 1) (by
        unfold iv
        rw [ti_add (by omega) (by omega), k1]
        omega)]
theorem who_eq {z : zT} {h g : ph_H} {a : Int32} (R : RC h g) (I : IM z g) (f : iv 0 3 a) : FX3_whoGoes_s a h = FX12_free a g := by
  have k4 : (4 : Int32).toInt = 4 := by decide
  unfold FX3_whoGoes_s FX3_whoGoes_s_19 FX12_free
  have f' := f
  unfold iv at f
  rw [if_neg (nn_t f.1), if_neg (by rw [Int32.le_iff_toInt_le, k4]; omega), canGo_eq R I f', who21 R I 2000 0 ⟨by decide, by decide⟩]
theorem free_in {g : ph_H} {a : Int32} (fa : iv 0 3 a) (n : ¬ FX12_free a g < 0) : iv 0 3 (FX12_free a g) ∧ ¬ FX12_canGo (FX12_free a g) g = 0 := by
  have L : ∀ (q : Nat) (x : Int32), iv 0 4 x → 4 - x.toInt < (q : Int) → ¬ FX12_free_12 q x g < 0 → iv 0 3 (FX12_free_12 q x g) ∧ ¬ FX12_canGo (FX12_free_12 q x g) g = 0 := by
    intro q
    induction q with
    | zero =>
      intro x f m
      unfold iv at f
      omega
    | succ q ih =>
      intro x f m
      have k1 : (1 : Int32).toInt = 1 := by decide
      have k4 : (4 : Int32).toInt = 4 := by decide
      unfold iv at f
      unfold FX12_free_12
      by_cases c : 4 ≤ x
      · rw [if_pos c]
        exact fun w => absurd (by decide) w
      · rw [if_neg c]
        rw [Int32.le_iff_toInt_le, k4] at c
        have e1 : (x + 1).toInt = x.toInt + 1 := by rw [ti_add (by omega) (by omega), k1]
        by_cases d : FX12_canGo x g = 0
        · rw [if_pos d]
          exact ih (x + 1) (by unfold iv; omega) (by omega)
        · rw [if_neg d]
          exact fun _ => ⟨⟨f.1, by omega⟩, d⟩
  unfold FX12_free at *
  by_cases c : FX12_canGo a g = 0
  · rw [if_pos c] at n ⊢
    exact L 2000 0 ⟨by decide, by decide⟩ (by decide) n
  · rw [if_neg c]
    exact ⟨fa, c⟩
def TN (h g : ph_H) : Prop := h 8 7 = g 0 9 ∧ ∀ k : Nat, (k : Int) < (g 0 9).toInt → h 13 k = g 8 k ∧ h 14 k = g 9 k
def RUN (z : zT) (h g : ph_H) : Prop := RC h g ∧ TR h g ∧ RH z g ∧ TN h g ∧ 0 ≤ (g 0 25).toInt ∧ g 24 (g 0 24).toNatClampNeg = g 0 18 ∧ SH h g
theorem adv_no {z : zT} {h g : ph_H} {t : Int32} (R : RC h g) (T : TR h g) (I : IM z g) (ht : iv 0 3 t) (c : ¬ g 0 25 = 0 ∨ 300 ≤ g 0 24 ∨ FX12_canGo t g = 0) : FX10_advance_s t h = (0, h) := by
  obtain ⟨t1, t2, t3, t4, t5, t6⟩ := T
  unfold FX10_advance_s
  rw [t1, t3]
  by_cases a : g 0 25 = 0
  · rw [if_pos a]
    by_cases b : g 0 24 < 300
    · rw [if_pos b]
      rcases c with c | c | c
      · exact absurd a c
      · rw [Int32.lt_iff_toInt_lt] at b
        rw [Int32.le_iff_toInt_le] at c
        omega
      · rw [go_no R I ht c]
        rfl
    · rw [if_neg b]
  · rw [if_neg a]
theorem kp24a : ∀ (q : Nat) (s x : Int32) (g : ph_H), iv 0 4 x → 4 - x.toInt < (q : Int) → FX12_keep_50 q s x g 24 s.toNatClampNeg = g 0 18
  | 0, s, x, g, f, m => by unfold iv at f; omega
  | q + 1, s, x, g, f, m => by
    have k1 : (1 : Int32).toInt = 1 := by decide
    have k4 : (4 : Int32).toInt = 4 := by decide
    unfold iv at f
    unfold FX12_keep_50
    by_cases c : 4 ≤ x
    · rw [if_pos c]
      have e := fr4_FX12_keep_104 (h0 := hs g 24 s.toNatClampNeg (g 0 18)) 2000 s 0 _ (EQ_r _)
      rw [e 24 _ rfl, hs_self]
    · rw [if_neg c]
      rw [Int32.le_iff_toInt_le, k4] at c
      have e1 : (x + 1).toInt = x.toInt + 1 := by rw [ti_add (by omega) (by omega), k1]
      rw [kp24a q s (x + 1) _ (by unfold iv; omega) (by omega), hs_o (by simp), hs_o (by simp)]
theorem kp24b : ∀ (q : Nat) (s x : Int32) (g : ph_H), iv 0 28 x → 28 - x.toInt < (q : Int) → FX12_keep_2 q s x g 24 s.toNatClampNeg = g 0 18
  | 0, s, x, g, f, m => by unfold iv at f; omega
  | q + 1, s, x, g, f, m => by
    have k1 : (1 : Int32).toInt = 1 := by decide
    have k28 : (28 : Int32).toInt = 28 := by decide
    unfold iv at f
    unfold FX12_keep_2
    by_cases c : 28 ≤ x
    · rw [if_pos c]
      exact kp24a 2000 s 0 g ⟨by decide, by decide⟩ (by decide)
    · rw [if_neg c]
      rw [Int32.le_iff_toInt_le, k28] at c
      have e1 : (x + 1).toInt = x.toInt + 1 := by rw [ti_add (by omega) (by omega), k1]
      rw [kp24b q s (x + 1) _ (by unfold iv; omega) (by omega), hs_o (by simp), hs_o (by simp)]
theorem kp24 (s : Int32) (g : ph_H) : FX12_keep s g 24 s.toNatClampNeg = g 0 18 := kp24b 2000 s 0 g ⟨by decide, by decide⟩ (by decide)
theorem sk24 (t : Int32) (g : ph_H) : FX12_stepKept t g 24 (FX12_stepKept t g 0 24).toNatClampNeg = FX12_stepKept t g 0 18 := by
  rw [sk_eq]
  have e := frK_FX12_keep (h0 := kW t (kI (g 0 23) (FX12_step t (cg1 t g)))) (FX12_step t (cg1 t g) 0 24) _ (EQ_r _)
  have w : ∀ i, kW t (kI (g 0 23) (FX12_step t (cg1 t g))) 0 i = FX12_step t (cg1 t g) 0 i := fun i => by rw [kW_o _ _ _ _ (by omega), kI_o _ _ _ _ (by omega)]
  rw [e 0 24 rfl, e 0 18 rfl, w, kp24]
theorem RUN_adv {z : zT} {h g : ph_H} {t : Int32} (U : RUN z h g) (ht : iv 0 3 t) (c : ¬ FX12_canGo t g = 0) (nf : g 0 25 = 0) (ns : ¬ 300 ≤ g 0 24) : (FX10_advance_s t h).1 = 1 ∧ RUN z (FX10_advance_s t h).2 (FX12_stepKept t g) ∧ (FX12_stepKept t g 0 24).toInt = (g 0 24).toInt + 1 := by
  obtain ⟨R, T, H, N, F, KK⟩ := U
  have H' := H
  obtain ⟨z', zm1, I, z33, rm, hch⟩ := H
  have k300 : (300 : Int32).toInt = 300 := by decide
  have s300 : iv 0 300 (g 0 24) := IMv I 0 24
  have ns' : iv 0 299 (g 0 24) := by
    rw [Int32.le_iff_toInt_le, k300] at ns
    unfold iv at *
    omega
  have nk : g 0 33 = 0 := (IMz I 0 33 rfl).trans z33
  have hc2 : (g 0 60).toInt ≤ (g 0 24).toInt := by
    rw [IMz I 0 60 rfl, IMz I 0 24 rfl]
    exact hch
  obtain ⟨a1, a2, a3, a4⟩ := adv_eq R T I ht c nf nk ns' hc2
  obtain ⟨_, c12, _⟩ := cg_true c
  have fn : iv 0 23 (g 12 t.toNatClampNeg) := by
    have := IMv I 12 t.toNatClampNeg
    exact iv_nel (y := 24) (show iv 0 24 _ from this) c12 rfl
  obtain ⟨_, b2, b3⟩ := T_kept H' ht fn ns'
  have fa := frA_FX10_advance_s (h0 := h) t h (EQ_r _)
  have ft := frT_FX12_stepKept (h0 := g) t g (EQ_r _)
  obtain ⟨z2, I2⟩ : ∃ z2, IM z2 (FX12_stepKept t g) := by
    obtain ⟨z2, _, I2, _⟩ := b2
    exact ⟨z2, I2⟩
  have LVg : LV g := R.2.2.2.2.2.2
  have cgo := cg1_o t g
  have cge : ∀ k i, ¬ k = 0 → ¬ k = 37 → ¬ k = 38 → cg1 t g k i = g k i := fun k i a b c => cgo k i b c (fun w => a w.1)
  have ccg : ¬ FX12_canGo t (cg1 t g) = 0 := by
    rw [canGo_c (g := g) (fun i => cge _ i (by decide) (by decide) (by decide)) (fun i => cge _ i (by decide) (by decide) (by decide)) (fun i => cge _ i (by decide) (by decide) (by decide)) (fun i => cge _ i (by decide) (by decide) (by decide)) (fun i => cge _ i (by decide) (by decide) (by decide)) (fun i => cge _ i (by decide) (by decide) (by decide)) (fun i => cge _ i (by decide) (by decide) (by decide)) (fun i => cge _ i (by decide) (by decide) (by decide)) (fun i => cge _ i (by decide) (by decide) (by decide))]
    exact c
  have FLg : FL (FX12_step t (cg1 t g)) := by
    obtain ⟨z1, I1⟩ := cg1_IM (t := t) I ht hc2 ns'
    have nk1 : cg1 t g 0 33 = 0 := by rw [cgo _ _ (by decide) (by decide) (by decide)]; exact nk
    have R1 : RC h (cg1 t g) := R.congr (fun _ _ _ => rfl) (fun k i q => cgo k i (fun e => by rw [e] at q; exact absurd q (by simp [rM])) (fun e => by rw [e] at q; exact absurd q (by simp [rM])) (fun e => by rw [e.1, e.2] at q; exact absurd q (by decide))) (fun n => absurd nk n)
    exact (go_eq R1 I1 ht ccg (by rw [cgo _ _ (by decide) (by decide) (by decide)]; exact nf) (fun a => a.2.2.1 nk1)).2.2.2
  refine ⟨a1, ⟨a2, a3, b2, ⟨?_, fun k hk => ?_⟩, a4, sk24 t g, SH_adv KK.2 I I2 ht c nf nk ns' hc2 LVg FLg ccg (fun k i q => fa k i (by unfold pA; split <;> first | omega | rfl))⟩, b3⟩
  · rw [fa 8 7 rfl, ft 0 9 rfl]
    exact N.1
  · rw [ft 0 9 rfl] at hk
    rw [fa 13 k rfl, fa 14 k rfl, ft 8 k rfl, ft 9 k rfl]
    exact N.2 k hk
theorem RH_IM {z : zT} {g : ph_H} (H : RH z g) : ∃ z', IM z' g := by
  obtain ⟨z', _, I, _⟩ := H
  exact ⟨z', I⟩
theorem turn_in {z : zT} (L31 : Int32 → ph_H → Int32 × ph_H) (L2 : Int32 → ph_H → ph_H) (k t : Int32) (fk : iv 0 39 k) (ft : iv 0 3 t) : ∀ (q : Nat) (q' : Nat) (x : Int32) (h g : ph_H), RUN z h g → g 8 k.toNatClampNeg = t → k.toInt < (g 0 9).toInt → iv 0 100 x → 100 - x.toInt < (q : Int) → 101 - x.toInt < (q' : Int) → ∃ h' g', FX12_run_41 L31 q k x g = L31 (k + 1) g' ∧ FX10_takeTurns_st_30 L2 q' k t 1 x h = L2 (k + 1) h' ∧ RUN z h' g' ∧ g' 0 9 = g 0 9
  | 0, q', x, h, g, U, e8, hk, f, m, m' => by unfold iv at f; omega
  | q + 1, 0, x, h, g, U, e8, hk, f, m, m' => by unfold iv at f; omega
  | q + 1, q' + 1, x, h, g, U, e8, hk, f, m, m' => by
    have k1 : (1 : Int32).toInt = 1 := by decide
    have kn := iv_nat fk rfl
    have U' := U
    obtain ⟨R, T, H, N, F, KK⟩ := U
    obtain ⟨z', I⟩ := RH_IM H
    obtain ⟨n1, n2⟩ := N.2 k.toNatClampNeg (by omega)
    have f' := f
    unfold iv at f
    have b100 : iv 0 100 (g 9 k.toNatClampNeg) := IMv I 9 _
    unfold iv at b100
    have stop : FX10_advance_s t h = (0, h) → ¬ g 9 k.toNatClampNeg ≤ x → FX10_takeTurns_st_30 L2 (q' + 1) k t 1 x h = L2 (k + 1) h := fun e c => by
      rw [Int32.le_iff_toInt_le] at c
      obtain ⟨q2, rfl⟩ : ∃ q2, q' = q2 + 1 := ⟨q' - 1, by omega⟩
      unfold FX10_takeTurns_st_30 FX10_takeTurns_st_61 FX10_takeTurns_st_53
      rw [n2, if_neg (by rw [Int32.le_iff_toInt_le]; omega), if_neg (by decide), e]
      show FX10_takeTurns_st_30 L2 (q2 + 1) k t 0 (x + 1) h = _
      unfold FX10_takeTurns_st_30 FX10_takeTurns_st_61
      rw [if_pos (rfl : (0 : Int32) = 0)]
      split <;> rfl
    by_cases c : g 9 k.toNatClampNeg ≤ x
    · refine ⟨h, g, ?_, ?_, U', rfl⟩
      · unfold FX12_run_41 FX12_run_97
        rw [if_pos c]
      · unfold FX10_takeTurns_st_30 FX10_takeTurns_st_61
        rw [n2, if_pos c]
    · by_cases nf : g 0 25 = 0
      · by_cases ns : 300 ≤ g 0 24
        · refine ⟨h, g, ?_, stop (adv_no R T I ft (Or.inr (Or.inl ns))) c, U', rfl⟩
          unfold FX12_run_41 FX12_run_97
          rw [if_neg c, if_pos nf, if_pos ns]
        · by_cases cg : FX12_canGo t g = 0
          · refine ⟨h, g, ?_, stop (adv_no R T I ft (Or.inr (Or.inr cg))) c, U', rfl⟩
            unfold FX12_run_41 FX12_run_97
            rw [if_neg c, if_pos nf, if_neg ns, e8, if_pos cg]
          · obtain ⟨a1, a2, a3⟩ := RUN_adv U' ft cg nf ns
            have fr := frT_FX12_stepKept (h0 := g) t g (EQ_r _)
            rw [Int32.le_iff_toInt_le] at c
            have e1 : (x + 1).toInt = x.toInt + 1 := by rw [ti_add (by omega) (by omega), k1]
            obtain ⟨h', g', b1, b2, b3, b4⟩ := turn_in L31 L2 k t fk ft q q' (x + 1) _ _ a2 (by rw [fr 8 _ rfl]; exact e8) (by rw [fr 0 9 rfl]; exact hk) (by unfold iv; omega) (by omega) (by omega)
            refine ⟨h', g', ?_, ?_, b3, b4.trans (fr 0 9 rfl)⟩
            · rw [← b1]
              show FX12_run_41 L31 (q + 1) k x g = _
              rw [FX12_run_41]
              unfold FX12_run_91
              rw [if_neg (by rw [Int32.le_iff_toInt_le]; exact c), if_pos nf, if_neg ns, e8, if_neg cg]
            · rw [← b2, FX10_takeTurns_st_30]
              unfold FX10_takeTurns_st_53
              rw [n2, if_neg (by rw [Int32.le_iff_toInt_le]; exact c), if_neg (by decide), a1]
      · refine ⟨h, g, ?_, stop (adv_no R T I ft (Or.inl nf)) c, U', rfl⟩
        unfold FX12_run_41 FX12_run_97
        rw [if_neg c, if_neg nf]
theorem turns_eq {z : zT} : ∀ (q : Nat) (q' : Nat) (x : Int32) (h g : ph_H), RUN z h g → iv 0 40 x → 40 - x.toInt < (q : Int) → 40 - x.toInt < (q' : Int) → ∃ g', FX12_run_31 q x g = FX12_run_112 2000 (FX12_free (g' 0 26) g') g' ∧ RUN z (FX10_takeTurns_st_2 q' x h) g'
  | 0, q', x, h, g, U, f, m, m' => by unfold iv at f; omega
  | q + 1, 0, x, h, g, U, f, m, m' => by unfold iv at f; omega
  | q + 1, q' + 1, x, h, g, U, f, m, m' => by
    have k1 : (1 : Int32).toInt = 1 := by decide
    have k40 : (40 : Int32).toInt = 40 := by decide
    have U' := U
    obtain ⟨R, T, H, N, F, KK⟩ := U
    obtain ⟨z', I⟩ := RH_IM H
    have t40 : iv 0 40 (g 0 9) := IMv I 0 9
    have xn := iv_nat f rfl
    unfold iv at f t40
    unfold FX12_run_31 FX10_takeTurns_st_2
    rw [N.1]
    by_cases c : g 0 9 ≤ x
    · rw [if_pos c, if_pos c]
      exact ⟨g, rfl, U'⟩
    · rw [if_neg c, if_neg c]
      rw [Int32.le_iff_toInt_le] at c
      rw [if_neg (by rw [Int32.le_iff_toInt_le, k40]; omega)]
      obtain ⟨n1, n2⟩ := N.2 x.toNatClampNeg (by omega)
      have e1 : (x + 1).toInt = x.toInt + 1 := by rw [ti_add (by omega) (by omega), k1]
      have f3 : iv 0 3 (g 8 x.toNatClampNeg) := IMv I 8 _
      obtain ⟨h', g', b1, b2, b3, b4⟩ := turn_in (FX12_run_31 q) (FX10_takeTurns_st_2 q') x (g 8 x.toNatClampNeg) ⟨f.1, by omega⟩ f3 2000 2000 0 h g U' rfl (by omega) ⟨by decide, by decide⟩ (by decide) (by decide)
      rw [b1, n1, b2]
      exact turns_eq q q' (x + 1) h' g' b3 (by unfold iv; omega) (by omega) (by omega)
theorem goon_eq {z : zT} : ∀ (q : Nat) (q' : Nat) (n : Int32) (h g : ph_H), RUN z h g → iv 0 300 n → n.toInt ≤ (g 0 24).toInt → 300 - (g 0 24).toInt < (q : Int) → 301 - n.toInt < (q' : Int) → ∃ g', FX12_run_112 q (FX12_free (g 0 26) g) g = FX12_run_150 g' ∧ RUN z (FX10_goOn_s_4 q' 1 n h) g'
  | 0, q', n, h, g, U, f, l, m, m' => by
    obtain ⟨z', I⟩ := RH_IM U.2.2.1
    have s300 : iv 0 300 (g 0 24) := IMv I 0 24
    unfold iv at s300
    omega
  | q + 1, 0, n, h, g, U, f, l, m, m' => by unfold iv at f; omega
  | q + 1, q' + 1, n, h, g, U, f, l, m, m' => by
    have k1 : (1 : Int32).toInt = 1 := by decide
    have k300 : (300 : Int32).toInt = 300 := by decide
    have U' := U
    obtain ⟨R, T, H, N, F, KK⟩ := U
    obtain ⟨z', I⟩ := RH_IM H
    have s300 : iv 0 300 (g 0 24) := IMv I 0 24
    have w3 : iv 0 3 (g 0 26) := IMv I 0 26
    have who := who_eq R I w3
    have lat := T.2.2.2.2.2
    unfold iv at f s300
    have halt : ∀ (q2 : Nat) (n2 : Int32), FX10_goOn_s_4 q2 0 n2 h = h := fun q2 n2 => by
      cases q2 with
      | zero => rfl
      | succ q2 =>
        unfold FX10_goOn_s_4
        rw [if_pos (rfl : (0 : Int32) = 0)]
        split <;> rfl
    have stop : FX10_advance_s (FX12_free (g 0 26) g) h = (0, h) → FX10_goOn_s_4 (q' + 1) 1 n h = h := fun e => by
      unfold FX10_goOn_s_4 FX10_goOn_s_44 FX10_goOn_s_37 FX10_goOn_s_45 FX10_goOn_s_44
      rw [lat, who, e]
      split
      · rfl
      · rw [if_neg (by decide)]
        split
        · exact halt _ _
        · rw [if_pos rfl]
          exact halt _ _
    by_cases c : FX12_free (g 0 26) g < 0
    · refine ⟨g, ?_, ?_⟩
      · unfold FX12_run_112
        rw [if_pos c]
      · have : FX10_goOn_s_4 (q' + 1) 1 n h = h := by
          unfold FX10_goOn_s_4 FX10_goOn_s_44 FX10_goOn_s_45
          rw [lat, who, if_pos c]
          split
          · rfl
          · rw [if_neg (by decide)]
            exact halt _ _
        rw [this]
        exact U'
    · obtain ⟨c1, c2⟩ := free_in w3 c
      by_cases nf : g 0 25 = 0
      · by_cases ns : 300 ≤ g 0 24
        · refine ⟨g, ?_, ?_⟩
          · unfold FX12_run_112
            rw [if_neg c, if_pos nf, if_pos ns]
          · rw [stop (adv_no R T I c1 (Or.inr (Or.inl ns)))]
            exact U'
        · obtain ⟨a1, a2, a3⟩ := RUN_adv U' c1 c2 nf ns
          have ns2 := ns
          rw [Int32.le_iff_toInt_le, k300] at ns2
          have e1 : (n + 1).toInt = n.toInt + 1 := by rw [ti_add (by omega) (by omega), k1]
          obtain ⟨g', b1, b2⟩ := goon_eq q q' (n + 1) _ _ a2 (by unfold iv; omega) (by omega) (by omega) (by omega)
          refine ⟨g', ?_, ?_⟩
          · rw [← b1, FX12_run_112]
            unfold FX12_run_138
            rw [if_neg c, if_pos nf, if_neg ns]
          · have : FX10_goOn_s_4 (q' + 1) 1 n h = FX10_goOn_s_4 q' 1 (n + 1) (FX10_advance_s (FX12_free (g 0 26) g) h).2 := by
              rw [FX10_goOn_s_4]
              unfold FX10_goOn_s_37 FX10_goOn_s_45
              have n3 : ¬ 300 ≤ n := by rw [Int32.le_iff_toInt_le, k300]; omega
              rw [lat, who, a1]
              simp (decide := true) only [c, n3, ↓reduceIte]
            rw [this]
            exact b2
      · refine ⟨g, ?_, ?_⟩
        · unfold FX12_run_112
          rw [if_neg c, if_neg nf]
        · rw [stop (adv_no R T I c1 (Or.inl nf))]
          exact U'
/-- how it was over -/
theorem over23 {z : zT} {h g : ph_H} (R : RC h g) (I : IM z g) : ∀ (q : Nat) (x : Int32), iv 0 4 x → 4 - x.toInt < (q : Int) → FX12_ending_23 q 0 x g = 1 ∧ FX12_ending_23 q 1 x g = if FX3_allStartedHaveEnded_s_2 q x h = 0 then 1 else 0
  | 0, x, f, m => by unfold iv at f; omega
  | q + 1, x, f, m => by
    have k1 : (1 : Int32).toInt = 1 := by decide
    have k4 : (4 : Int32).toInt = 4 := by decide
    unfold iv at f
    unfold FX12_ending_23 FX12_ending_52 FX12_ending_56 FX12_ending_57 FX3_allStartedHaveEnded_s_2 FX3_allStartedHaveEnded_s_26
    by_cases c : 4 ≤ x
    · simp (decide := true) only [c, ↓reduceIte, and_self]
    · rw [if_neg c, if_neg c, if_neg c]
      rw [Int32.le_iff_toInt_le, k4] at c
      have fx : iv 0 3 x := ⟨f.1, by omega⟩
      have e1 : (x + 1).toInt = x.toInt + 1 := by rw [ti_add (by omega) (by omega), k1]
      obtain ⟨i1, i2⟩ := over23 R I q (x + 1) (by unfold iv; omega) (by omega)
      rw [if_pos rfl, if_neg (by decide), i1, i2, ended_eq R I fx]
      refine ⟨rfl, ?_⟩
      have md := R.2.2.1 _ (t_lt fx)
      by_cases s : g 13 x.toNatClampNeg = 0
      · have s' : h 19 x.toNatClampNeg = 0 := by
          rcases md with ⟨m, st, as, wk⟩ | ⟨m, st, as, wk⟩ | ⟨m, st, as, q, wk⟩ | ⟨m, st, as, wk, q⟩
          · exact m
          all_goals exact absurd (s.symm.trans st) (by decide)
        rw [if_pos s, if_pos s']
      · have s' : ¬ h 19 x.toNatClampNeg = 0 := fun w => s (MD0 md w).1
        rw [if_neg s, if_neg s']
        by_cases e : g 12 x.toNatClampNeg = 24
        · simp (decide := true) only [e, ↓reduceIte]
        · simp (decide := true) only [e, ↓reduceIte]
theorem over_eq {z : zT} {h g : ph_H} (U : RUN z h g) : FX10_howOver_s h = FX12_ending g := by
  obtain ⟨R, T, H, N, F, KK⟩ := U
  obtain ⟨z', I⟩ := RH_IM H
  have k0 : (0 : Int32).toInt = 0 := by decide
  have who := who_eq R I (a := 0) ⟨by decide, by decide⟩
  obtain ⟨_, o⟩ := over23 R I 2000 0 ⟨by decide, by decide⟩ (by decide)
  unfold FX10_howOver_s FX12_ending FX3_allStartedHaveEnded_s
  rw [T.2.2.1, who, o]
  by_cases c : g 0 25 = 0
  · simp (decide := true) only [c, ↓reduceIte]
  · rw [if_neg c, if_neg (fun w => c (tI (by rw [Int32.le_iff_toInt_le, k0] at w; omega)))]
end MG_48_x35B2
section MG_48_x36B3
/-! RUN as a call on both sides; the programs told are the same -/
def PN (h g : ph_H) : Prop := (∀ t, t < 4 → h 2 t = g 1 t) ∧ (∀ i, i < 96 → h 3 (4 * i) = g 2 i ∧ h 3 (4 * i + 1) = g 3 i ∧ h 3 (4 * i + 2) = g 4 i ∧ h 3 (4 * i + 3) = g 5 i) ∧ (∀ c, c < 12 → h 4 c = g 6 c) ∧ (h 1 6 = g 0 7 ∧ ∀ k : Nat, (k : Int) < (g 0 7).toInt → h 5 k = g 7 k) ∧ (h 1 7 = g 0 9 ∧ ∀ k : Nat, (k : Int) < (g 0 9).toInt → h 6 k = g 8 k ∧ h 7 k = g 9 k) ∧ (∀ i, iv 0 19 (g 2 i))
theorem bec (h : ph_H) : (∀ i, i < 4 → FX5_become_tn h 9 i = h 2 i) ∧ (∀ i, i < 384 → FX5_become_tn h 10 i = h 3 i) ∧ (∀ i, i < 12 → FX5_become_tn h 11 i = h 4 i) ∧ (∀ i, i < 30 → FX5_become_tn h 12 i = h 5 i) ∧ (∀ i, i < 40 → FX5_become_tn h 13 i = h 6 i ∧ FX5_become_tn h 14 i = h 7 i) ∧ FX5_become_tn h 8 6 = h 1 6 ∧ FX5_become_tn h 8 7 = h 1 7 ∧ (∀ k i, ¬ (8 ≤ k ∧ k ≤ 14) → FX5_become_tn h k i = h k i) := by
  have n4 : (4 : Int32).toNatClampNeg = 4 := by decide
  have n384 : (384 : Int32).toNatClampNeg = 384 := by decide
  have n12 : (12 : Int32).toNatClampNeg = 12 := by decide
  have n30 : (30 : Int32).toNatClampNeg = 30 := by decide
  have n40 : (40 : Int32).toNatClampNeg = 40 := by decide
  unfold FX5_become_tn
  refine ⟨fun i hi => ?_, fun i hi => ?_, fun i hi => ?_, fun i hi => ?_, fun i hi => ⟨?_, ?_⟩, ?_, ?_, fun k i q => ?_⟩
  · rw [hs_o (by simp), hs_o (by simp), hc_o (by decide), hc_o (by decide), hc_o (by decide), hc_o (by decide), hc_o (by decide), hc_at, n4, if_pos hi]
  · rw [hs_o (by simp), hs_o (by simp), hc_o (by decide), hc_o (by decide), hc_o (by decide), hc_o (by decide), hc_at, n384, if_pos hi, hc_o (by decide)]
  · rw [hs_o (by simp), hs_o (by simp), hc_o (by decide), hc_o (by decide), hc_o (by decide), hc_at, n12, if_pos hi, hc_o (by decide), hc_o (by decide)]
  · rw [hs_o (by simp), hs_o (by simp), hc_o (by decide), hc_o (by decide), hc_at, n30, if_pos hi, hc_o (by decide), hc_o (by decide), hc_o (by decide)]
  · rw [hs_o (by simp), hs_o (by simp), hc_o (by decide), hc_at, n40, if_pos hi, hc_o (by decide), hc_o (by decide), hc_o (by decide), hc_o (by decide)]
  · rw [hs_o (by simp), hs_o (by simp), hc_at, n40, if_pos hi, hc_o (by decide), hc_o (by decide), hc_o (by decide), hc_o (by decide), hc_o (by decide)]
  · rw [hs_o (by simp), hs_self, hc_o (by decide), hc_o (by decide), hc_o (by decide), hc_o (by decide), hc_o (by decide), hc_o (by decide)]
  · rw [hs_self, hc_o (by decide), hc_o (by decide), hc_o (by decide), hc_o (by decide), hc_o (by decide), hc_o (by decide)]
  · rw [hs_o (by omega), hs_o (by omega), hc_o (by omega), hc_o (by omega), hc_o (by omega), hc_o (by omega), hc_o (by omega), hc_o (by omega)]
theorem beg_o (g0 : ph_H) : (∀ k i, (1 ≤ k ∧ k ≤ 9) → FX12_keep 0 (hs (hs (FX12_begin g0) 0 60 0) 0 64 0) k i = g0 k i) ∧ (∀ i, FX12_keep 0 (hs (hs (FX12_begin g0) 0 60 0) 0 64 0) 36 i = g0 36 i) ∧ (∀ k i, rM k i = true → FX12_keep 0 (hs (hs (FX12_begin g0) 0 60 0) 0 64 0) k i = FX12_begin g0 k i) ∧ kn (FX12_keep 0 (hs (hs (FX12_begin g0) 0 60 0) 0 64 0)) = kn g0 ∧ (∀ k, vi (FX12_keep 0 (hs (hs (FX12_begin g0) 0 60 0) 0 64 0)) k = vi g0 k) := by
  obtain ⟨r1, r2, r3, r4⟩ := rbeg g0
  have fk := frK_FX12_keep (h0 := hs (hs (FX12_begin g0) 0 60 0) 0 64 0) 0 _ (EQ_r _)
  generalize FX12_keep 0 (hs (hs (FX12_begin g0) 0 60 0) 0 64 0) = GG at *
  have a1 : ∀ k i, (1 ≤ k ∧ k ≤ 9) → GG k i = g0 k i := fun k i q => by
    rw [fk k i (by unfold pK; split <;> first | omega | rfl), hs_o (by omega), hs_o (by omega), r3 k i (by omega) (by omega)]
  have a2 : ∀ i, GG 36 i = g0 36 i := fun i => by rw [fk 36 i rfl, hs_o (by simp), hs_o (by simp), r3 36 i (by omega) (by omega)]
  have f0 : ∀ i, ¬ i = 60 → ¬ i = 64 → ¬ (i = 18 ∨ i = 23 ∨ i = 24 ∨ i = 25 ∨ i = 26 ∨ i = 35) → GG 0 i = g0 0 i := fun i a b c => by rw [fk 0 i rfl, hs_o (by simp [b]), hs_o (by simp [a]), r4, if_neg c]
  have e7 := f0 7 (by decide) (by decide) (by decide)
  have e33 := f0 33 (by decide) (by decide) (by decide)
  have e34 := f0 34 (by decide) (by decide) (by decide)
  refine ⟨a1, a2, fun k i q => ?_, ?_, fun k => ?_⟩
  · have n1 : ¬ (k = 0 ∧ i = 64) := fun e => by rw [e.1, e.2] at q; exact absurd q (by decide)
    have n2 : ¬ (k = 0 ∧ i = 60) := fun e => by rw [e.1, e.2] at q; exact absurd q (by decide)
    have pp : pK k i = true := by
      unfold rM at q
      unfold pK
      split at q <;> first | rfl | (exact absurd q (by decide))
    rw [fk k i pp, hs_o n1, hs_o n2]
  · unfold kn
    rw [e7, e33, e34]
  · unfold vi
    rw [e33, a1 7 k (by omega), a2]
theorem beg_BEG {g0 : ph_H} (z33 : g0 0 33 = 0) : BEG (FX12_keep 0 (hs (hs (FX12_begin g0) 0 60 0) 0 64 0)) := by
  obtain ⟨a1, a2, a3, a4, a5⟩ := beg_o g0
  obtain ⟨r1, r2, r3, r4⟩ := rbeg g0
  have n33 : FX12_begin g0 0 33 = 0 := by rw [r4, if_neg (by decide)]; exact z33
  intro h T
  obtain ⟨⟨⟨p1, p2⟩, p3, p4⟩, t1, t2, t3⟩ := T
  rw [a4] at t1 t2 t3
  have P : PR h g0 := ⟨⟨fun t ht => by rw [← a1 1 t (by omega)]; exact p1 t ht, fun i hi => by rw [← a1 2 i (by omega), ← a1 3 i (by omega), ← a1 4 i (by omega), ← a1 5 i (by omega)]; exact p2 i hi⟩, fun c hc => by rw [← a1 6 c (by omega)]; exact p3 c hc, fun i => by rw [← a1 2 i (by omega)]; exact p4 i⟩
  have V : ∀ k : Nat, (k : Int) < (kn g0).toInt → h 12 k = vi g0 k := fun k hk => by rw [← a5]; exact t3 k hk
  exact ⟨(begin_RC (kv := h 8 6) P t1 t2 V).congr (fun _ _ _ => rfl) a3 (fun n => absurd n33 n), (begin_RCo2 (kv := h 8 6) P t1 t2 V).congro2 (fun _ _ _ => rfl) a3 (fun n => absurd n33 n)⟩
theorem run_start {z : zT} {h g : ph_H} (P : PN h g) (J : IT z g) : RUN z (hs (hs (hs (FX3_begin_st (FX5_become_tn h 8 6) (FX5_become_tn h)) 35 11 0) 35 12 0) 35 14 0) (FX12_keep 0 (hs (hs (FX12_begin (hs (hs g 0 0 0) 0 33 0)) 0 60 0) 0 64 0)) := by
  obtain ⟨w1, w2, w3, w4, w5, w6⟩ := P
  obtain ⟨c1, c2, c3, c4, c5, c6, c7, c8⟩ := bec h
  have k0 : (0 : Int32).toInt = 0 := by decide
  have f7 : iv 0 30 (g 0 7) := ITv J 0 7
  have f9 : iv 0 40 (g 0 9) := ITv J 0 9
  unfold iv at f7 f9
  have G0 : ∀ k i, ¬ k = 0 → (hs (hs g 0 0 0) 0 33 0) k i = g k i := fun k i q => by rw [hs_o (fun w => q w.1), hs_o (fun w => q w.1)]
  have g33 : (hs (hs g 0 0 0) 0 33 0) 0 33 = 0 := hs_self _ _ _ _
  have g7 : (hs (hs g 0 0 0) 0 33 0) 0 7 = g 0 7 := by rw [hs_o (by simp), hs_o (by simp)]
  have g9 : (hs (hs g 0 0 0) 0 33 0) 0 9 = g 0 9 := by rw [hs_o (by simp), hs_o (by simp)]
  have kn0 : kn (hs (hs g 0 0 0) 0 33 0) = g 0 7 := by
    unfold kn
    rw [if_pos g33, g7]
  have RB : RC (FX3_begin_st (FX5_become_tn h 8 6) (FX5_become_tn h)) (FX12_begin (hs (hs g 0 0 0) 0 33 0)) := begin_RC (h := FX5_become_tn h) (g := (hs (hs g 0 0 0) 0 33 0)) ⟨⟨fun t ht => by rw [c1 t ht, G0 1 t (by decide)]; exact w1 t ht, fun i hi => by
      rw [c2 _ (by omega), c2 _ (by omega), c2 _ (by omega), c2 _ (by omega), G0 2 i (by decide), G0 3 i (by decide), G0 4 i (by decide), G0 5 i (by decide)]
      exact w2 i hi⟩, fun c hc => by rw [c3 c hc, G0 6 c (by decide)]; exact w3 c hc, fun i => by rw [G0 2 i (by decide)]; exact w6 i⟩ (by rw [c6, kn0]; exact w4.1) (by rw [kn0]; omega) (fun k hk => by
      rw [kn0] at hk
      unfold vi
      rw [if_pos g33, G0 7 k (by decide), c4 k (by omega)]
      exact w4.2 k hk)
  obtain ⟨r1, r2, r3, r4⟩ := rbeg (hs (hs g 0 0 0) 0 33 0)
  obtain ⟨d1, d2, d3, d4, d5, d6, d7, d8⟩ := cbeg (FX5_become_tn h 8 6) (FX5_become_tn h)
  have fk := frK_FX12_keep (h0 := hs (hs (FX12_begin (hs (hs g 0 0 0) 0 33 0)) 0 60 0) 0 64 0) 0 _ (EQ_r _)
  have K0 : ∀ i, ¬ i = 60 → ¬ i = 64 → (FX12_keep 0 (hs (hs (FX12_begin (hs (hs g 0 0 0) 0 33 0)) 0 60 0) 0 64 0)) 0 i = FX12_begin (hs (hs g 0 0 0) 0 33 0) 0 i := fun i a b => by rw [fk 0 i rfl, hs_o (by simp [b]), hs_o (by simp [a])]
  have e24 : (FX12_keep 0 (hs (hs (FX12_begin (hs (hs g 0 0 0) 0 33 0)) 0 60 0) 0 64 0)) 0 24 = 0 := by rw [K0 _ (by decide) (by decide), r4]; simp
  have e25 : (FX12_keep 0 (hs (hs (FX12_begin (hs (hs g 0 0 0) 0 33 0)) 0 60 0) 0 64 0)) 0 25 = 0 := by rw [K0 _ (by decide) (by decide), r4]; simp
  have e26 : (FX12_keep 0 (hs (hs (FX12_begin (hs (hs g 0 0 0) 0 33 0)) 0 60 0) 0 64 0)) 0 26 = 0 := by rw [K0 _ (by decide) (by decide), r4]; simp
  have e60 : (FX12_keep 0 (hs (hs (FX12_begin (hs (hs g 0 0 0) 0 33 0)) 0 60 0) 0 64 0)) 0 60 = 0 := by rw [fk 0 60 rfl, hs_o (by simp), hs_self]
  have e9 : (FX12_keep 0 (hs (hs (FX12_begin (hs (hs g 0 0 0) 0 33 0)) 0 60 0) 0 64 0)) 0 9 = g 0 9 := by rw [K0 _ (by decide) (by decide), r4, if_neg (by decide), g9]
  have H11 : (hs (hs (hs (FX3_begin_st (FX5_become_tn h 8 6) (FX5_become_tn h)) 35 11 0) 35 12 0) 35 14 0) 35 11 = 0 := by rw [hs_o (by simp), hs_o (by simp), hs_self]
  refine ⟨?_, ⟨?_, ?_, ?_, ?_, ?_, ?_⟩, ?_, ⟨?_, ?_⟩, ?_, ?_⟩
  · refine RB.congr (fun k i q => ?_) (fun k i q => ?_) (fun n => absurd ?_ n)
    · have : ¬ k = 35 := fun e => by rw [e] at q; exact absurd q (by simp [cM])
      rw [hs_o (fun w => this w.1), hs_o (fun w => this w.1), hs_o (fun w => this w.1)]
    · have p : pK k i = true := by
        unfold rM at q
        unfold pK
        split at q <;> first | rfl | (exact absurd q (by decide))
      have n1 : ¬ (k = 0 ∧ i = 64) := fun e => by rw [e.1, e.2] at q; exact absurd q (by decide)
      have n2 : ¬ (k = 0 ∧ i = 60) := fun e => by rw [e.1, e.2] at q; exact absurd q (by decide)
      rw [fk k i p, hs_o n1, hs_o n2]
    · rw [r4, if_neg (by decide)]
      exact g33
  · rw [H11, e24]
  · rw [hs_o (by simp), hs_self, e60]
  · rw [hs_self, e25]
  · intro s a b
    rw [e24, k0] at b
    omega
  · intro i hi
    rw [e60, k0] at hi
    omega
  · unfold FX10_latestThread
    rw [H11, if_pos (by decide), e26]
  · -- the reference's own invariant
    have I0 : IT z (hs (hs g 0 0 0) 0 33 0) := by
      obtain ⟨z1, m, i, e⟩ := J
      exact ⟨_, zm_hs m rfl rfl, IMg (k := 0) (i := 33) (IMa 0 0 i rfl rfl) (show iv 0 1 0 from ⟨by decide, by decide⟩) rfl, hz_e⟩
    have b := T_begin I0
    obtain ⟨⟨z1, m, i, e, r⟩, e24⟩ := b.2
    have fz : iv 0 300 (0 : Int32) := ⟨by decide, by decide⟩
    have i2 : IM (hs z1 0 60 0) (hs (hs (FX12_begin (hs (hs g 0 0 0) 0 33 0)) 0 60 0) 0 64 0) := IMs (k := 0) (i := 64) (IMg (k := 0) (i := 60) i fz rfl) (show iv 0 1 0 from ⟨by decide, by decide⟩) rfl
    have k := SX12_keep (z := hs z1 0 60 0) 0 _ i2 fz
    refine ⟨_, zm_hs m rfl rfl, k.2, (hz_i rfl).trans e, RMz_60 r, ?_⟩
    have q24 : hs z1 0 60 0 0 24 = z1 0 24 := hz_i rfl
    have q0 : z1 0 24 = 0 := (IMz i 0 24 rfl).symm.trans e24
    rw [hz_e, q24, q0]
    exact Int.le_refl _
  · rw [hs_o (by simp), hs_o (by simp), hs_o (by simp), d8 _ _ (by decide), c7, e9]
    exact w5.1
  · intro k hk
    rw [e9] at hk
    rw [hs_o (by simp), hs_o (by simp), hs_o (by simp), hs_o (by simp), hs_o (by simp), hs_o (by simp), d8 _ _ (by decide), d8 _ _ (by decide), fk 8 k rfl, fk 9 k rfl, hs_o (by simp), hs_o (by simp), hs_o (by simp), hs_o (by simp), r3 8 k (by decide) (by decide), r3 9 k (by decide) (by decide), G0 8 k (by decide), G0 9 k (by decide), (c5 k (by omega)).1, (c5 k (by omega)).2]
    exact w5.2 k hk
  · rw [e25, k0]
    exact Int.le_refl _
  · refine ⟨by rw [e24, kp24, fk 0 18 rfl], ?_⟩
    have n0 : (0 : Int32).toNatClampNeg = 0 := by decide
    have e18 : hs (hs (FX12_begin (hs (hs g 0 0 0) 0 33 0)) 0 60 0) 0 64 0 0 18 = 0 := by rw [hs_o (by simp), hs_o (by simp), r4]; simp
    have K := (keep_KR (s := 0) (g := hs (hs (FX12_begin (hs (hs g 0 0 0) 0 33 0)) 0 60 0) 0 64 0) ⟨by decide, by decide⟩ (by rw [e18]; decide) (by rw [e18]; decide)).1
    have K2 : KR (FX12_keep 0 (hs (hs (FX12_begin (hs (hs g 0 0 0) 0 33 0)) 0 60 0) 0 64 0)) 0 (FX12_keep 0 (hs (hs (FX12_begin (hs (hs g 0 0 0) 0 33 0)) 0 60 0) 0 64 0)) := KR_c (fun k i q => fk k i (by unfold pK; split <;> first | omega | rfl)) (fk 0 18 rfl) K
    obtain ⟨z9, I9⟩ : ∃ z9, IM z9 (FX12_keep 0 (hs (hs (FX12_begin (hs (hs g 0 0 0) 0 33 0)) 0 60 0) 0 64 0)) := by
      have I0 : IT z (hs (hs g 0 0 0) 0 33 0) := by
        obtain ⟨z1, m, i, e⟩ := J
        exact ⟨_, zm_hs m rfl rfl, IMg (k := 0) (i := 33) (IMa 0 0 i rfl rfl) (show iv 0 1 0 from ⟨by decide, by decide⟩) rfl, hz_e⟩
      have b := T_begin I0
      obtain ⟨⟨z1, m, i, e, r⟩, e24⟩ := b.2
      have fz : iv 0 300 (0 : Int32) := ⟨by decide, by decide⟩
      have i2 : IM (hs z1 0 60 0) (hs (hs (FX12_begin (hs (hs g 0 0 0) 0 33 0)) 0 60 0) 0 64 0) := IMs (k := 0) (i := 64) (IMg (k := 0) (i := 60) i fz rfl) (show iv 0 1 0 from ⟨by decide, by decide⟩) rfl
      have k := SX12_keep (z := hs z1 0 60 0) 0 _ i2 fz
      exact ⟨_, k.2⟩
    obtain ⟨o1, o2, o3, o4, o5⟩ := beg_o (hs (hs g 0 0 0) 0 33 0)
    have e23 : (FX12_keep 0 (hs (hs (FX12_begin (hs (hs g 0 0 0) 0 33 0)) 0 60 0) 0 64 0)) 0 23 = 0 := by rw [K0 _ (by decide) (by decide), r4]; simp
    refine ⟨fun _ => (FX12_keep 0 (hs (hs (FX12_begin (hs (hs g 0 0 0) 0 33 0)) 0 60 0) 0 64 0)), ⟨fun s hn => ?_, fun s hn => ?_, beg_BEG g33⟩, rfl, ?_, fun k hk => by rw [e23, k0] at hk; omega, fun i hi => by rw [e60, k0] at hi; omega, fun i j hij hj => by rw [e60, k0] at hj; omega⟩
    · rw [e24, n0] at hn
      have : s = 0 := by omega
      subst this
      refine ⟨⟨z9, I9⟩, K2, fun t ht w => ?_⟩
      have e14 : (FX12_keep 0 (hs (hs (FX12_begin (hs (hs g 0 0 0) 0 33 0)) 0 60 0) 0 64 0)) 14 t = -1 := by rw [fk 14 t rfl, hs_o (by simp), hs_o (by simp)]; exact (r2 t ht).2.2.1
      dsimp only at w
      rw [e14] at w
      exact absurd w (by decide)
    · rw [e24, n0] at hn
      omega
    · have T0 : TP (FX5_become_tn h) (FX12_keep 0 (hs (hs (FX12_begin (hs (hs g 0 0 0) 0 33 0)) 0 60 0) 0 64 0)) := by
        refine ⟨⟨⟨fun t ht => by rw [c1 t ht, o1 1 t (by omega), G0 1 t (by decide)]; exact w1 t ht, fun i hi => by
          rw [c2 _ (by omega), c2 _ (by omega), c2 _ (by omega), c2 _ (by omega), o1 2 i (by omega), o1 3 i (by omega), o1 4 i (by omega), o1 5 i (by omega), G0 2 i (by decide), G0 3 i (by decide), G0 4 i (by decide), G0 5 i (by decide)]
          exact w2 i hi⟩, fun c hc => by rw [c3 c hc, o1 6 c (by omega), G0 6 c (by decide)]; exact w3 c hc, fun i => by rw [o1 2 i (by omega), G0 2 i (by decide)]; exact w6 i⟩, by rw [c6, o4, kn0]; exact w4.1, by rw [o4, kn0]; omega, fun k hk => ?_⟩
        rw [o4, kn0] at hk
        rw [o5]
        unfold vi
        rw [if_pos g33, G0 7 k (by decide), c4 k (by omega)]
        exact w4.2 k hk
      refine TP_fr T0 (fun k i q => ?_)
      rw [hs_o (by omega), hs_o (by omega), hs_o (by omega), d8 k i (by omega)]
theorem run_sim {z : zT} {h g : ph_H} (P : PN h g) (J : IT z g) : ∃ hE gE, RUN z hE gE ∧ FX11_run h = FX11_run_40 (FX10_record_s_29 hE) ∧ FX12_run g = FX12_run_150 gE := by
  have U := run_start P J
  obtain ⟨g3, a1, a2⟩ := turns_eq 2000 2000 0 (hs (hs (hs (FX3_begin_st (FX5_become_tn h 8 6) (FX5_become_tn h)) 35 11 0) 35 12 0) 35 14 0) (FX12_keep 0 (hs (hs (FX12_begin (hs (hs g 0 0 0) 0 33 0)) 0 60 0) 0 64 0)) U ⟨by decide, by decide⟩ (by decide) (by decide)
  obtain ⟨z', I⟩ := RH_IM a2.2.2.1
  have s300 : iv 0 300 (g3 0 24) := IMv I 0 24
  unfold iv at s300
  have k0 : (0 : Int32).toInt = 0 := by decide
  obtain ⟨gE, b1, b2⟩ := goon_eq 2000 2000 0 _ g3 a2 ⟨by decide, by decide⟩ (by omega) (by omega) (by decide)
  refine ⟨_, gE, b2, rfl, ?_⟩
  rw [← b1, ← a1]
  rfl
theorem over_eq' {z : zT} {h g : ph_H} (R : RC h g) (I : IM z g) (e : h 35 14 = g 0 25) (F : 0 ≤ (g 0 25).toInt) : FX10_howOver_s h = FX12_ending g := by
  have k0 : (0 : Int32).toInt = 0 := by decide
  have who := who_eq R I (a := 0) ⟨by decide, by decide⟩
  obtain ⟨_, o⟩ := over23 R I 2000 0 ⟨by decide, by decide⟩ (by decide)
  unfold FX10_howOver_s FX12_ending FX3_allStartedHaveEnded_s
  rw [e, who, o]
  by_cases c : g 0 25 = 0
  · simp (decide := true) only [c, ↓reduceIte]
  · rw [if_neg c, if_neg (fun w => c (tI (by rw [Int32.le_iff_toInt_le, k0] at w; omega)))]
theorem run_over {z : zT} {h g : ph_H} (U : RUN z h g) : FX10_howOver_s h = FX12_ending (hs g 0 36 1) := by
  obtain ⟨R, T, H, N, F, KK⟩ := U
  obtain ⟨z', I⟩ := RH_IM H
  refine over_eq' (R.rs rfl) (IMs (k := 0) (i := 36) I (show iv 0 1 1 from ⟨by decide, by decide⟩) rfl) ?_ ?_
  · rw [hs_o (by simp)]
    exact T.2.2.1
  · rw [hs_o (by simp)]
    exact F
/-- what run answers -/
theorem run_ans {z : zT} {h g : ph_H} (P : PN h g) (J : IT z g) : (FX11_run h).1 = (FX12_run g).1 := by
  obtain ⟨hE, gE, U, e1, e2⟩ := run_sim P J
  rw [e1, e2]
  have o := run_over U
  have a : (FX11_run_40 (FX10_record_s_29 hE)).1 = FX10_howOver_s hE := by
    unfold FX11_run_40 FX11_run_47 FX4_forget FX10_record_s_29
    simp [hs_get]
  have b : (FX12_run_150 gE).1 = FX12_ending (hs gE 0 36 1) := by
    unfold FX12_run_150 FX12_run_195
    split <;> simp [hs_get]
  rw [a, b, o]
end MG_48_x36B3
section MG_48_x37B4
/-! WHAT HOLDS BETWEEN TWO CALLS: the same program told, the same record of the latest run -/
def QF (h g : ph_H) : Prop := h 35 13 = g 0 37 ∧ h 35 11 = g 0 38 ∧ h 35 14 = g 0 39 ∧ g 0 40 = (if g 0 39 = 0 then -1 else FX10_latestThread h) ∧ h 35 15 = g 24 (g 0 38).toNatClampNeg ∧ h 35 12 = g 0 60 ∧ h 35 16 = g 0 41 ∧ h 0 10 = g 0 42 ∧ (∀ s : Nat, 0 < s → (s : Int) ≤ (g 0 38).toInt → TRs h g s) ∧ (∀ i : Nat, (i : Int) < (g 0 60).toInt → h 45 i = g 37 i ∧ h 46 i = g 38 i)
def QR (h g : ph_H) : Prop := h 0 8 = g 0 36 ∧ (¬ g 0 36 = 0 → QF h g)
def SR (h g : ph_H) : Prop := ¬ g 0 36 = 0 → 0 ≤ (g 0 42).toInt ∧ (g 0 42).toInt ≤ (g 0 38).toInt ∧ ∃ Gs, SQ g Gs (g 0 38).toNatClampNeg ∧ TP h (Gs 0) ∧ 0 ≤ (h 0 9).toInt ∧ (h 0 9).toInt ≤ (g 0 38).toInt ∧ RC h (Gs (h 0 9).toNatClampNeg)
def PLQ (g : ph_H) : Prop := ¬ g 0 36 = 0 → (0 ≤ (g 0 41).toInt ∧ (g 0 41).toInt ≤ (g 0 7).toInt ∧ ∀ k : Nat, (k : Int) < (g 0 41).toInt → g 36 k = g 7 k) ∧ CI g (g 0 38)
def FO (h g : ph_H) : Prop := h 52 9 = g 0 67 ∧ (h 52 10 = 0 ↔ g 0 69 = 0) ∧ (¬ g 0 69 = 0 → h 52 6 = g 0 70 ∧ h 52 8 = g 0 73 ∧ (h 52 6 = 0 ∨ h 52 6 = 1 ∨ h 52 6 = 2) ∧ ∀ i : Nat, (i : Int) < (h 52 6).toInt → h 54 i = g 40 i ∧ h 55 i = g 41 i)
def XR (h g : ph_H) : Prop := PLQ g ∧ h 0 12 = g 0 66 ∧ FO h g
def LR (h g : ph_H) : Prop := PN h g ∧ QR h g ∧ SR h g ∧ XR h g
def pSR (k i : Nat) : Bool := match k with
  | 0 => i == 8 || i == 9 || i == 10
  | 8 => true
  | 9 => true
  | 10 => true
  | 11 => true
  | 12 => true
  | 13 => true
  | 14 => true
  | 15 => true
  | 16 => true
  | 17 => true
  | 18 => true
  | 19 => true
  | 20 => true
  | 21 => true
  | 22 => true
  | 23 => true
  | 24 => true
  | 35 => true
  | 36 => true
  | 37 => true
  | 38 => true
  | 39 => true
  | 40 => true
  | 41 => true
  | 42 => true
  | 43 => true
  | 44 => true
  | 45 => true
  | 46 => true
  | _ => false
def pN0 (k i : Nat) : Bool := match k with
  | 1 => i == 6 || i == 7
  | 2 => true
  | 3 => true
  | 4 => true
  | 5 => true
  | 6 => true
  | 7 => true
  | _ => false
def pVN0 (k i : Nat) : Bool := match k with
  | 0 => i == 7 || i == 9
  | 1 => true
  | 2 => true
  | 3 => true
  | 4 => true
  | 5 => true
  | 6 => true
  | 7 => true
  | 8 => true
  | 9 => true
  | _ => false
def pVR0 (k i : Nat) : Bool := match k with
  | 0 => i == 36 || i == 37 || i == 38 || i == 39 || i == 40 || i == 41 || i == 42 || i == 60
  | 20 => true
  | 21 => true
  | 22 => true
  | 23 => true
  | 24 => true
  | 25 => true
  | 26 => true
  | 27 => true
  | 28 => true
  | 29 => true
  | 30 => true
  | 31 => true
  | 32 => true
  | 33 => true
  | 34 => true
  | 35 => true
  | 36 => true
  | 37 => true
  | 38 => true
  | _ => false
def pFO (k i : Nat) : Bool := match k with
  | 52 => i == 6 || i == 8 || i == 9 || i == 10
  | 54 => true
  | 55 => true
  | _ => false
def pVFO (k i : Nat) : Bool := match k with
  | 0 => i == 67 || i == 69 || i == 70 || i == 73
  | 40 => true
  | 41 => true
  | _ => false
def pX7 (k i : Nat) : Bool := match k with
  | 0 => i == 7
  | 7 => true
  | _ => false
def pX6 (k i : Nat) : Bool := match k with
  | 0 => i == 36 || i == 38 || i == 41 || i == 60
  | 36 => true
  | 37 => true
  | 38 => true
  | _ => false
def pQ (k i : Nat) : Bool := match k with
  | 0 => i == 8 || i == 10
  | 35 => true
  | 36 => true
  | 37 => true
  | 38 => true
  | 39 => true
  | 40 => true
  | 41 => true
  | 42 => true
  | 43 => true
  | 44 => true
  | 45 => true
  | 46 => true
  | _ => false
theorem EQ_sub {W W' : Nat → Nat → Bool} {h0 h : ph_H} (q : ∀ k i, W' k i = true → W k i = true) (e : EQ W h0 h) : EQ W' h0 h := fun k i w => e k i (q k i w)
theorem pCR_pC (k i : Nat) (q : pCR k i = true) : pC k i = true := by
  unfold pCR at q
  split at q
  all_goals first | rfl | exact q | (unfold pC; simp only [Bool.or_eq_true, beq_iff_eq] at q ⊢; omega) | (exact absurd q (by decide))
theorem pSR_pCR (k i : Nat) (q : pSR k i = true) : pCR k i = true := by
  unfold pSR at q
  split at q
  all_goals first | rfl | exact q | (unfold pCR; simp only [Bool.or_eq_true, beq_iff_eq] at q ⊢; omega) | (exact absurd q (by decide))
theorem pSR_pP (k i : Nat) (q : pSR k i = true) : pP k i = true := by
  unfold pSR at q
  split at q
  all_goals first | rfl | exact q | (unfold pP; simp only [Bool.or_eq_true, beq_iff_eq] at q ⊢; omega) | (exact absurd q (by decide))
theorem pQ_pSR (k i : Nat) (q : pQ k i = true) : pSR k i = true := by
  unfold pQ at q
  split at q
  all_goals first | rfl | exact q | (unfold pSR; simp only [Bool.or_eq_true, beq_iff_eq] at q ⊢; omega) | (exact absurd q (by decide))
theorem pQ_pD (k i : Nat) (q : pQ k i = true) : pD k i = true := by
  unfold pQ at q
  split at q
  all_goals first | rfl | exact q | (unfold pD; simp only [Bool.or_eq_true, beq_iff_eq] at q ⊢; omega) | (exact absurd q (by decide))
theorem pX7_pVI (k i : Nat) (q : pX7 k i = true) : pVI k i = true := by
  unfold pX7 at q
  split at q
  all_goals first | rfl | exact q | (unfold pVI; simp only [Bool.or_eq_true, beq_iff_eq] at q ⊢; omega) | (exact absurd q (by decide))
theorem pX7_pVN (k i : Nat) (q : pX7 k i = true) : pVN k i = true := by
  unfold pX7 at q
  split at q
  all_goals first | rfl | exact q | (unfold pVN; simp only [Bool.or_eq_true, beq_iff_eq] at q ⊢; omega) | (exact absurd q (by decide))
theorem pX7_pV (k i : Nat) (q : pX7 k i = true) : pV k i = true := by
  unfold pX7 at q
  split at q
  all_goals first | rfl | exact q | (unfold pV; simp only [Bool.or_eq_true, beq_iff_eq] at q ⊢; omega) | (exact absurd q (by decide))
theorem pX7_pVP (k i : Nat) (q : pX7 k i = true) : pVP k i = true := by
  unfold pX7 at q
  split at q
  all_goals first | rfl | exact q | (unfold pVP; simp only [Bool.or_eq_true, beq_iff_eq] at q ⊢; omega) | (exact absurd q (by decide))
theorem pX6_pVR (k i : Nat) (q : pX6 k i = true) : pVR k i = true := by
  unfold pX6 at q
  split at q
  all_goals first | rfl | exact q | (unfold pVR; simp only [Bool.or_eq_true, beq_iff_eq] at q ⊢; omega) | (exact absurd q (by decide))
theorem pVR_pV (k i : Nat) (q : pVR k i = true) : pV k i = true := by
  unfold pVR at q
  split at q
  all_goals first | rfl | exact q | (unfold pV; simp only [Bool.or_eq_true, beq_iff_eq] at q ⊢; omega) | (exact absurd q (by decide))
theorem cM_pSR (k i : Nat) (q : cM k i = true) : pSR k i = true := by
  unfold cM at q
  split at q
  all_goals first | rfl | exact q | (unfold pSR; simp only [Bool.or_eq_true, beq_iff_eq] at q ⊢; omega) | (exact absurd q (by decide))
theorem pN0_pN (k i : Nat) (q : pN0 k i = true) : pN k i = true := by
  unfold pN0 at q
  split at q
  all_goals first | rfl | exact q | (unfold pN; simp only [Bool.or_eq_true, beq_iff_eq] at q ⊢; omega) | (exact absurd q (by decide))
theorem pN0_pC (k i : Nat) (q : pN0 k i = true) : pC k i = true := by
  unfold pN0 at q
  split at q
  all_goals first | rfl | exact q | (unfold pC; simp only [Bool.or_eq_true, beq_iff_eq] at q ⊢; omega) | (exact absurd q (by decide))
theorem pN0_pP (k i : Nat) (q : pN0 k i = true) : pP k i = true := by
  unfold pN0 at q
  split at q
  all_goals first | rfl | exact q | (unfold pP; simp only [Bool.or_eq_true, beq_iff_eq] at q ⊢; omega) | (exact absurd q (by decide))
theorem pN0_pD (k i : Nat) (q : pN0 k i = true) : pD k i = true := by
  unfold pN0 at q
  split at q
  all_goals first | rfl | exact q | (unfold pD; simp only [Bool.or_eq_true, beq_iff_eq] at q ⊢; omega) | (exact absurd q (by decide))
theorem pVN0_pVN (k i : Nat) (q : pVN0 k i = true) : pVN k i = true := by
  unfold pVN0 at q
  split at q
  all_goals first | rfl | exact q | (unfold pVN; simp only [Bool.or_eq_true, beq_iff_eq] at q ⊢; omega) | (exact absurd q (by decide))
theorem pVN0_pV (k i : Nat) (q : pVN0 k i = true) : pV k i = true := by
  unfold pVN0 at q
  split at q
  all_goals first | rfl | exact q | (unfold pV; simp only [Bool.or_eq_true, beq_iff_eq] at q ⊢; omega) | (exact absurd q (by decide))
theorem pVN0_pVP (k i : Nat) (q : pVN0 k i = true) : pVP k i = true := by
  unfold pVN0 at q
  split at q
  all_goals first | rfl | exact q | (unfold pVP; simp only [Bool.or_eq_true, beq_iff_eq] at q ⊢; omega) | (exact absurd q (by decide))
theorem pVR0_pVR (k i : Nat) (q : pVR0 k i = true) : pVR k i = true := by
  unfold pVR0 at q
  split at q
  all_goals first | rfl | exact q | (unfold pVR; simp only [Bool.or_eq_true, beq_iff_eq] at q ⊢; omega) | (exact absurd q (by decide))
theorem pVR0_pV (k i : Nat) (q : pVR0 k i = true) : pV k i = true := by
  unfold pVR0 at q
  split at q
  all_goals first | rfl | exact q | (unfold pV; simp only [Bool.or_eq_true, beq_iff_eq] at q ⊢; omega) | (exact absurd q (by decide))
theorem pVR0_pVP (k i : Nat) (q : pVR0 k i = true) : pVP k i = true := by
  unfold pVR0 at q
  split at q
  all_goals first | rfl | exact q | (unfold pVP; simp only [Bool.or_eq_true, beq_iff_eq] at q ⊢; omega) | (exact absurd q (by decide))
theorem pX6_pVR0 (k i : Nat) (q : pX6 k i = true) : pVR0 k i = true := by
  unfold pX6 at q
  split at q
  all_goals first | rfl | exact q | (unfold pVR0; simp only [Bool.or_eq_true, beq_iff_eq] at q ⊢; omega) | (exact absurd q (by decide))
theorem pFO_pC (k i : Nat) (q : pFO k i = true) : pC k i = true := by
  unfold pFO at q
  split at q
  all_goals first | rfl | exact q | (unfold pC; simp only [Bool.or_eq_true, beq_iff_eq] at q ⊢; omega) | (exact absurd q (by decide))
theorem pFO_pP (k i : Nat) (q : pFO k i = true) : pP k i = true := by
  unfold pFO at q
  split at q
  all_goals first | rfl | exact q | (unfold pP; simp only [Bool.or_eq_true, beq_iff_eq] at q ⊢; omega) | (exact absurd q (by decide))
theorem pFO_pD (k i : Nat) (q : pFO k i = true) : pD k i = true := by
  unfold pFO at q
  split at q
  all_goals first | rfl | exact q | (unfold pD; simp only [Bool.or_eq_true, beq_iff_eq] at q ⊢; omega) | (exact absurd q (by decide))
theorem pFO_pN (k i : Nat) (q : pFO k i = true) : pN k i = true := by
  unfold pFO at q
  split at q
  all_goals first | rfl | exact q | (unfold pN; simp only [Bool.or_eq_true, beq_iff_eq] at q ⊢; omega) | (exact absurd q (by decide))
theorem pFO_pCR (k i : Nat) (q : pFO k i = true) : pCR k i = true := by
  unfold pFO at q
  split at q
  all_goals first | rfl | exact q | (unfold pCR; simp only [Bool.or_eq_true, beq_iff_eq] at q ⊢; omega) | (exact absurd q (by decide))
theorem pVFO_pV (k i : Nat) (q : pVFO k i = true) : pV k i = true := by
  unfold pVFO at q
  split at q
  all_goals first | rfl | exact q | (unfold pV; simp only [Bool.or_eq_true, beq_iff_eq] at q ⊢; omega) | (exact absurd q (by decide))
theorem pVFO_pVP (k i : Nat) (q : pVFO k i = true) : pVP k i = true := by
  unfold pVFO at q
  split at q
  all_goals first | rfl | exact q | (unfold pVP; simp only [Bool.or_eq_true, beq_iff_eq] at q ⊢; omega) | (exact absurd q (by decide))
theorem pVFO_pVN (k i : Nat) (q : pVFO k i = true) : pVN k i = true := by
  unfold pVFO at q
  split at q
  all_goals first | rfl | exact q | (unfold pVN; simp only [Bool.or_eq_true, beq_iff_eq] at q ⊢; omega) | (exact absurd q (by decide))
theorem pVFO_pVR (k i : Nat) (q : pVFO k i = true) : pVR k i = true := by
  unfold pVFO at q
  split at q
  all_goals first | rfl | exact q | (unfold pVR; simp only [Bool.or_eq_true, beq_iff_eq] at q ⊢; omega) | (exact absurd q (by decide))
theorem pN0_pFi (k i : Nat) (q : pN0 k i = true) : pFi k i = true := by
  unfold pN0 at q
  split at q
  all_goals first | rfl | exact q | (unfold pFi; simp only [Bool.or_eq_true, beq_iff_eq] at q ⊢; omega) | (exact absurd q (by decide))
theorem pSR_pFi (k i : Nat) (q : pSR k i = true) : pFi k i = true := by
  unfold pSR at q
  split at q
  all_goals first | rfl | exact q | (unfold pFi; simp only [Bool.or_eq_true, beq_iff_eq] at q ⊢; omega) | (exact absurd q (by decide))
theorem pVN0_pVFi (k i : Nat) (q : pVN0 k i = true) : pVFi k i = true := by
  unfold pVN0 at q
  split at q
  all_goals first | rfl | exact q | (unfold pVFi; simp only [Bool.or_eq_true, beq_iff_eq] at q ⊢; omega) | (exact absurd q (by decide))
theorem pVR0_pVFi (k i : Nat) (q : pVR0 k i = true) : pVFi k i = true := by
  unfold pVR0 at q
  split at q
  all_goals first | rfl | exact q | (unfold pVFi; simp only [Bool.or_eq_true, beq_iff_eq] at q ⊢; omega) | (exact absurd q (by decide))
theorem pX7_pVFi (k i : Nat) (q : pX7 k i = true) : pVFi k i = true := by
  unfold pX7 at q
  split at q
  all_goals first | rfl | exact q | (unfold pVFi; simp only [Bool.or_eq_true, beq_iff_eq] at q ⊢; omega) | (exact absurd q (by decide))
theorem PN_fr {h h' g g' : ph_H} (P : PN h g) (e : EQ pN0 h h') (d : EQ pVN0 g g') : PN h' g' := by
  have c1 : ∀ i, h' 2 i = h 2 i := fun i => e _ _ rfl
  have c2 : ∀ i, h' 3 i = h 3 i := fun i => e _ _ rfl
  have c3 : ∀ i, h' 4 i = h 4 i := fun i => e _ _ rfl
  have c4 : ∀ i, h' 5 i = h 5 i := fun i => e _ _ rfl
  have c5 : ∀ i, h' 6 i = h 6 i := fun i => e _ _ rfl
  have c6 : ∀ i, h' 7 i = h 7 i := fun i => e _ _ rfl
  have c7 : h' 1 6 = h 1 6 := e _ _ rfl
  have c8 : h' 1 7 = h 1 7 := e _ _ rfl
  have d1 : ∀ i, g' 1 i = g 1 i := fun i => d _ _ rfl
  have d2 : ∀ i, g' 2 i = g 2 i := fun i => d _ _ rfl
  have d3 : ∀ i, g' 3 i = g 3 i := fun i => d _ _ rfl
  have d4 : ∀ i, g' 4 i = g 4 i := fun i => d _ _ rfl
  have d5 : ∀ i, g' 5 i = g 5 i := fun i => d _ _ rfl
  have d6 : ∀ i, g' 6 i = g 6 i := fun i => d _ _ rfl
  have d7 : ∀ i, g' 7 i = g 7 i := fun i => d _ _ rfl
  have d8 : ∀ i, g' 8 i = g 8 i := fun i => d _ _ rfl
  have d9 : ∀ i, g' 9 i = g 9 i := fun i => d _ _ rfl
  have e1 : g' 0 7 = g 0 7 := d _ _ rfl
  have e2 : g' 0 9 = g 0 9 := d _ _ rfl
  simpa only [PN, c1, c2, c3, c4, c5, c6, c7, c8, d1, d2, d3, d4, d5, d6, d7, d8, d9, e1, e2] using P
theorem QR_fr {h h' g g' : ph_H} (P : QR h g) (e : EQ pQ h h') (d : EQ pVR0 g g') : QR h' g' := by
  have c1 : ∀ i, h' 35 i = h 35 i := fun i => e _ _ rfl
  have c2 : ∀ i, h' 36 i = h 36 i := fun i => e _ _ rfl
  have c3 : ∀ i, h' 37 i = h 37 i := fun i => e _ _ rfl
  have c4 : ∀ i, h' 38 i = h 38 i := fun i => e _ _ rfl
  have c5 : ∀ i, h' 39 i = h 39 i := fun i => e _ _ rfl
  have c6 : ∀ i, h' 40 i = h 40 i := fun i => e _ _ rfl
  have c7 : ∀ i, h' 41 i = h 41 i := fun i => e _ _ rfl
  have c8 : ∀ i, h' 42 i = h 42 i := fun i => e _ _ rfl
  have c9 : ∀ i, h' 43 i = h 43 i := fun i => e _ _ rfl
  have c10 : ∀ i, h' 44 i = h 44 i := fun i => e _ _ rfl
  have c11 : ∀ i, h' 45 i = h 45 i := fun i => e _ _ rfl
  have c12 : ∀ i, h' 46 i = h 46 i := fun i => e _ _ rfl
  have c13 : h' 0 8 = h 0 8 := e _ _ rfl
  have c14 : h' 0 10 = h 0 10 := e _ _ rfl
  have d1 : ∀ i, g' 20 i = g 20 i := fun i => d _ _ rfl
  have d2 : ∀ i, g' 21 i = g 21 i := fun i => d _ _ rfl
  have d3 : ∀ i, g' 24 i = g 24 i := fun i => d _ _ rfl
  have d4 : ∀ i, g' 29 i = g 29 i := fun i => d _ _ rfl
  have d5 : ∀ i, g' 30 i = g 30 i := fun i => d _ _ rfl
  have d6 : ∀ i, g' 31 i = g 31 i := fun i => d _ _ rfl
  have d7 : ∀ i, g' 32 i = g 32 i := fun i => d _ _ rfl
  have d8 : ∀ i, g' 33 i = g 33 i := fun i => d _ _ rfl
  have d9 : ∀ i, g' 34 i = g 34 i := fun i => d _ _ rfl
  have d10 : ∀ i, g' 35 i = g 35 i := fun i => d _ _ rfl
  have d11 : ∀ i, g' 37 i = g 37 i := fun i => d _ _ rfl
  have d12 : ∀ i, g' 38 i = g 38 i := fun i => d _ _ rfl
  have e36 : g' 0 36 = g 0 36 := d _ _ rfl
  have e37 : g' 0 37 = g 0 37 := d _ _ rfl
  have e38 : g' 0 38 = g 0 38 := d _ _ rfl
  have e39 : g' 0 39 = g 0 39 := d _ _ rfl
  have e40 : g' 0 40 = g 0 40 := d _ _ rfl
  have e41 : g' 0 41 = g 0 41 := d _ _ rfl
  have e42 : g' 0 42 = g 0 42 := d _ _ rfl
  have e60 : g' 0 60 = g 0 60 := d _ _ rfl
  simpa only [QR, QF, TRs, FX10_latestThread, c1, c2, c3, c4, c5, c6, c7, c8, c9, c10, c11, c12, c13, c14, d1, d2, d3, d4, d5, d6, d7, d8, d9, d10, d11, d12, e36, e37, e38, e39, e40, e41, e42, e60] using P
theorem pCR_lo (k i : Nat) (q : 8 ≤ k ∧ k ≤ 14) : pSR k i = true := by
  have : k = 8 ∨ k = 9 ∨ k = 10 ∨ k = 11 ∨ k = 12 ∨ k = 13 ∨ k = 14 := by omega
  rcases this with rfl | rfl | rfl | rfl | rfl | rfl | rfl <;> rfl
theorem pVR_lo (k i : Nat) (q : 20 ≤ k ∧ k ≤ 35) : pVR0 k i = true := by
  have : k = 20 ∨ k = 21 ∨ k = 22 ∨ k = 23 ∨ k = 24 ∨ k = 25 ∨ k = 26 ∨ k = 27 ∨ k = 28 ∨ k = 29 ∨ k = 30 ∨ k = 31 ∨ k = 32 ∨ k = 33 ∨ k = 34 ∨ k = 35 := by omega
  rcases this with rfl | rfl | rfl | rfl | rfl | rfl | rfl | rfl | rfl | rfl | rfl | rfl | rfl | rfl | rfl | rfl <;> rfl
theorem SR_fr {h h' g g' : ph_H} (P : SR h g) (e : EQ pSR h h') (d : EQ pVR0 g g') : SR h' g' := by
  have e36 : g' 0 36 = g 0 36 := d _ _ rfl
  have e38 : g' 0 38 = g 0 38 := d _ _ rfl
  have e42 : g' 0 42 = g 0 42 := d _ _ rfl
  have c9 : h' 0 9 = h 0 9 := e _ _ rfl
  intro n
  rw [e36] at n
  obtain ⟨v0, v1, Gs, q1, q2, q3, q4, q5⟩ := P n
  refine ⟨by rw [e42]; exact v0, by rw [e42, e38]; exact v1, Gs, ?_, TP_fr q2 (fun k i q => e k i (pCR_lo k i q)), by rw [c9]; exact q3, by rw [c9, e38]; exact q4, ?_⟩
  · rw [e38]
    exact SQ_fr q1 (fun k i q => d k i (pVR_lo k i q))
  · rw [c9]
    exact q5.congr (fun k i q => e k i (cM_pSR k i q)) (fun _ _ _ => rfl) (fun _ _ => rfl)
theorem PLQ_fr {g g' : ph_H} (P : PLQ g) (d : EQ pX6 g g') (f : EQ pX7 g g') : PLQ g' := by
  have e36 : g' 0 36 = g 0 36 := d _ _ rfl
  have e38 : g' 0 38 = g 0 38 := d _ _ rfl
  have e41 : g' 0 41 = g 0 41 := d _ _ rfl
  have e60 : g' 0 60 = g 0 60 := d _ _ rfl
  have r36 : ∀ i, g' 36 i = g 36 i := fun i => d _ _ rfl
  have r37 : ∀ i, g' 37 i = g 37 i := fun i => d _ _ rfl
  have r38 : ∀ i, g' 38 i = g 38 i := fun i => d _ _ rfl
  have r7 : ∀ i, g' 7 i = g 7 i := fun i => f _ _ rfl
  have e7 : g' 0 7 = g 0 7 := f _ _ rfl
  simpa only [PLQ, CI, e36, e38, e41, e60, r36, r37, r38, r7, e7] using P
theorem FO_fr {h h' g g' : ph_H} (P : FO h g) (e : EQ pFO h h') (d : EQ pVFO g g') : FO h' g' := by
  have c6 : h' 52 6 = h 52 6 := e _ _ rfl
  have c8 : h' 52 8 = h 52 8 := e _ _ rfl
  have c9 : h' 52 9 = h 52 9 := e _ _ rfl
  have c10 : h' 52 10 = h 52 10 := e _ _ rfl
  have c54 : ∀ i, h' 54 i = h 54 i := fun i => e _ _ rfl
  have c55 : ∀ i, h' 55 i = h 55 i := fun i => e _ _ rfl
  have d67 : g' 0 67 = g 0 67 := d _ _ rfl
  have d69 : g' 0 69 = g 0 69 := d _ _ rfl
  have d70 : g' 0 70 = g 0 70 := d _ _ rfl
  have d73 : g' 0 73 = g 0 73 := d _ _ rfl
  have d40 : ∀ i, g' 40 i = g 40 i := fun i => d _ _ rfl
  have d41 : ∀ i, g' 41 i = g 41 i := fun i => d _ _ rfl
  simpa only [FO, c6, c8, c9, c10, c54, c55, d67, d69, d70, d73, d40, d41] using P
theorem LR_fr {h h' g g' : ph_H} (P : LR h g) (e : EQ pC h h') (d : EQ pV g g') : LR h' g' := ⟨PN_fr P.1 (EQ_sub pN0_pC e) (EQ_sub pVN0_pV d), QR_fr P.2.1 (EQ_sub (fun k i q => pCR_pC k i (pSR_pCR k i (pQ_pSR k i q))) e) (EQ_sub pVR0_pV d), SR_fr P.2.2.1 (EQ_sub (fun k i q => pCR_pC k i (pSR_pCR k i q)) e) (EQ_sub pVR0_pV d), PLQ_fr P.2.2.2.1 (EQ_sub (fun k i q => pVR0_pV k i (pX6_pVR0 k i q)) d) (EQ_sub pX7_pV d), by rw [e 0 12 rfl, d 0 66 rfl]; exact P.2.2.2.2.1, FO_fr P.2.2.2.2.2 (EQ_sub pFO_pC e) (EQ_sub pVFO_pV d)⟩
theorem EQ_low {W : Nat → Nat → Bool} {h h' : ph_H} (q : ∀ k i, 60 ≤ k → W k i = false) (e : ∀ k, k < 60 → h' k = h k) : EQ W h h' := fun k i w => by
  by_cases c : k < 60
  · rw [e k c]
  · rw [q k i (by omega)] at w
    exact absurd w (by decide)
theorem pC_60 (k i : Nat) (q : 60 ≤ k) : pC k i = false := by
  unfold pC
  split <;> first | omega | rfl
theorem LR_low {h h' g : ph_H} (P : LR h g) (e : ∀ k, k < 60 → h' k = h k) : LR h' g := LR_fr P (EQ_low pC_60 e) (EQ_r g)
/-! the calls that tell a program -/
theorem isIn_iff {x : Int32} {l u : Int64} : FX12_isIn x.toInt64 l u = 0 ↔ ¬ (l.toInt ≤ x.toInt ∧ x.toInt ≤ u.toInt) := by
  constructor
  · intro h
    have := isIn_f h
    rw [Int64.le_iff_toInt_le, Int64.le_iff_toInt_le, Int32.toInt_toInt64] at this
    exact this
  · intro h
    apply Classical.byContradiction
    intro c
    have := isIn_t c
    rw [Int64.le_iff_toInt_le, Int64.le_iff_toInt_le, Int32.toInt_toInt64] at this
    exact h this
theorem isT_iff (x : Int32) : FX11_isThread x = 0 ↔ ¬ (0 ≤ x.toInt ∧ x.toInt ≤ 3) := by
  have h0 : (0 : Int32).toInt = 0 := by decide
  have h4 : (4 : Int32).toInt = 4 := by decide
  unfold FX11_isThread
  by_cases a : x < 0
  · rw [if_pos a]
    rw [Int32.lt_iff_toInt_lt, h0] at a
    exact ⟨fun _ => by omega, fun _ => rfl⟩
  · rw [if_neg a]
    rw [Int32.lt_iff_toInt_lt, h0] at a
    by_cases b : 4 ≤ x
    · rw [if_pos b]
      rw [Int32.le_iff_toInt_le, h4] at b
      exact ⟨fun _ => by omega, fun _ => rfl⟩
    · rw [if_neg b]
      rw [Int32.le_iff_toInt_le, h4] at b
      exact ⟨fun w => absurd w (by decide), fun w => by omega⟩
theorem isC_iff (x : Int32) : FX11_isCell x = 0 ↔ ¬ (0 ≤ x.toInt ∧ x.toInt ≤ 11) := by
  have h0 : (0 : Int32).toInt = 0 := by decide
  have h4 : (12 : Int32).toInt = 12 := by decide
  unfold FX11_isCell
  by_cases a : x < 0
  · rw [if_pos a]
    rw [Int32.lt_iff_toInt_lt, h0] at a
    exact ⟨fun _ => by omega, fun _ => rfl⟩
  · rw [if_neg a]
    rw [Int32.lt_iff_toInt_lt, h0] at a
    by_cases b : 12 ≤ x
    · rw [if_pos b]
      rw [Int32.le_iff_toInt_le, h4] at b
      exact ⟨fun _ => by omega, fun _ => rfl⟩
    · rw [if_neg b]
      rw [Int32.le_iff_toInt_le, h4] at b
      exact ⟨fun w => absurd w (by decide), fun w => by omega⟩
theorem PN_00 {h g : ph_H} (P : PN h g) : PN h (hs g 0 0 0) := PN_fr P (EQ_r h) (EQ_s rfl (EQ_r g))
theorem l0 : (0 : Int64).toInt = 0 := by decide
theorem l1 : (1 : Int64).toInt = 1 := by decide
theorem l3 : (3 : Int64).toInt = 3 := by decide
theorem l11 : (11 : Int64).toInt = 11 := by decide
theorem l19 : (19 : Int64).toInt = 19 := by decide
theorem l100 : (100 : Int64).toInt = 100 := by decide
theorem PN_clear {h g : ph_H} (P : PN h g) (a : Int32) : PN (FX11_clear a h).2 (FX12_clear a g).2 := by
  unfold FX11_clear FX12_clear
  by_cases c : 0 ≤ a.toInt ∧ a.toInt ≤ 3
  · rw [if_neg (fun w => (isT_iff a).mp w c), if_neg (fun w => isIn_iff.mp w (by rw [l0, l3]; exact c))]
    obtain ⟨p1, p2, p3, p4, p5, p6⟩ := PN_00 P
    refine ⟨fun t ht => ?_, ?_, ?_, ?_, ?_, ?_⟩
    · by_cases e : t = a.toNatClampNeg
      · simp [hs_get, e]
      · simpa [hs_get, e] using p1 t ht
    · simpa [hs_get] using p2
    · simpa [hs_get] using p3
    · simpa [hs_get] using p4
    · simpa [hs_get] using p5
    · simpa [hs_get] using p6
  · rw [if_pos ((isT_iff a).mpr c), if_pos (isIn_iff.mpr (by rw [l0, l3]; exact c))]
    exact PN_00 P
theorem PN_cell {h g : ph_H} (P : PN h g) (a v : Int32) : PN (FX11_cell a v h).2 (FX12_cell a v g).2 := by
  unfold FX11_cell FX12_cell
  by_cases c : 0 ≤ a.toInt ∧ a.toInt ≤ 11
  · rw [if_neg (fun w => (isC_iff a).mp w c), if_neg (fun w => isIn_iff.mp w (by rw [l0, l11]; exact c))]
    obtain ⟨p1, p2, p3, p4, p5, p6⟩ := PN_00 P
    refine ⟨?_, ?_, fun t ht => ?_, ?_, ?_, ?_⟩
    · simpa [hs_get] using p1
    · simpa [hs_get] using p2
    · by_cases e : t = a.toNatClampNeg
      · simp [hs_get, e]
      · simpa [hs_get, e] using p3 t ht
    · simpa [hs_get] using p4
    · simpa [hs_get] using p5
    · simpa [hs_get] using p6
  · rw [if_pos ((isC_iff a).mpr c), if_pos (isIn_iff.mpr (by rw [l0, l11]; exact c))]
    exact PN_00 P
theorem PN_freely {h g : ph_H} (P : PN h g) : PN (FX11_freely h).2 (FX12_freely g).2 := by
  unfold FX11_freely FX12_freely
  obtain ⟨p1, p2, p3, p4, p5, p6⟩ := PN_00 P
  have k0 : (0 : Int32).toInt = 0 := by decide
  dsimp only
  refine ⟨?_, ?_, ?_, ?_, ⟨?_, fun k hk => ?_⟩, ?_⟩
  · simpa [hs_get] using p1
  · simpa [hs_get] using p2
  · simpa [hs_get] using p3
  · simpa [hs_get] using p4
  · simp [hs_get]
  · rw [hs_self, k0] at hk
    omega
  · simpa [hs_get] using p6
theorem PN_input {z : zT} {h g : ph_H} (P : PN h g) (J : IT z g) (a : Int32) : PN (FX11_input a h).2 (FX12_input a g).2 := by
  unfold FX11_input FX12_input
  have P' := PN_00 P
  obtain ⟨p1, p2, p3, p4, p5, p6⟩ := P
  have f : iv 0 30 (g 0 7) := ITv J 0 7
  have fn := iv_nat f rfl
  unfold iv at f
  have k30 : (30 : Int32).toInt = 30 := by decide
  have k1 : (1 : Int32).toInt = 1 := by decide
  rw [p4.1]
  by_cases c : g 0 7 = 30
  · rw [if_pos c, if_neg (by rw [c]; decide)]
    exact P'
  · have c' : ¬ (g 0 7).toInt = 30 := fun w => c (tI (w.trans k30.symm))
    have e1 : (g 0 7 + 1).toInt = (g 0 7).toInt + 1 := by rw [ti_add (by omega) (by omega), k1]
    rw [if_neg c, if_pos (by rw [Int32.lt_iff_toInt_lt, k30]; omega)]
    dsimp only
    refine ⟨?_, ?_, ?_, ⟨?_, fun k hk => ?_⟩, ?_, ?_⟩
    · simpa [hs_get] using p1
    · simpa [hs_get] using p2
    · simpa [hs_get] using p3
    · simp [hs_get]
    · rw [hs_self, e1] at hk
      by_cases e : k = (g 0 7).toNatClampNeg
      · simp [hs_get, e]
      · simpa [hs_get, e] using p4.2 k (by omega)
    · simpa [hs_get] using p5
    · simpa [hs_get] using p6
theorem PN_turn {z : zT} {h g : ph_H} (P : PN h g) (J : IT z g) (a n : Int32) : PN (FX11_turn a n h).2 (FX12_turn a n g).2 := by
  unfold FX11_turn FX12_turn
  have P' := PN_00 P
  obtain ⟨p1, p2, p3, p4, p5, p6⟩ := P
  have f : iv 0 40 (g 0 9) := ITv J 0 9
  have fn := iv_nat f rfl
  unfold iv at f
  have k40 : (40 : Int32).toInt = 40 := by decide
  have k1 : (1 : Int32).toInt = 1 := by decide
  have k100 : (100 : Int32).toInt = 100 := by decide
  rw [p5.1]
  by_cases c : 0 ≤ a.toInt ∧ a.toInt ≤ 3
  · rw [if_neg (fun w => (isT_iff a).mp w c), if_neg (fun w => isIn_iff.mp w (by rw [l0, l3]; exact c))]
    by_cases d : 1 ≤ n.toInt ∧ n.toInt ≤ 100
    · rw [if_neg (by rw [Int32.lt_iff_toInt_lt, k1]; omega), if_pos (by rw [Int32.le_iff_toInt_le, k100]; omega), if_neg (fun w => isIn_iff.mp w (by rw [l1, l100]; exact d))]
      by_cases e : g 0 9 = 40
      · rw [if_pos e, if_neg (by rw [e]; decide)]
        exact P'
      · have e' : ¬ (g 0 9).toInt = 40 := fun w => e (tI (w.trans k40.symm))
        have e1 : (g 0 9 + 1).toInt = (g 0 9).toInt + 1 := by rw [ti_add (by omega) (by omega), k1]
        rw [if_neg e, if_pos (by rw [Int32.lt_iff_toInt_lt, k40]; omega)]
        dsimp only
        refine ⟨?_, ?_, ?_, ?_, ⟨?_, fun k hk => ?_⟩, ?_⟩
        · simpa [hs_get] using p1
        · simpa [hs_get] using p2
        · simpa [hs_get] using p3
        · simpa [hs_get] using p4
        · simp [hs_get]
        · rw [hs_self, e1] at hk
          by_cases e : k = (g 0 9).toNatClampNeg
          · simp [hs_get, e]
          · simpa [hs_get, e] using p5.2 k (by omega)
        · simpa [hs_get] using p6
    · rw [if_pos (isIn_iff.mpr (by rw [l1, l100]; exact d))]
      by_cases e : n < 1
      · rw [if_pos e]
        exact P'
      · rw [if_neg e, if_neg (by
          rw [Int32.lt_iff_toInt_lt, k1] at e
          rw [Int32.le_iff_toInt_le, k100]
          omega)]
        exact P'
  · rw [if_pos ((isT_iff a).mpr c), if_pos (isIn_iff.mpr (by rw [l0, l3]; exact c))]
    exact P'
theorem PN_code {z : zT} {h g : ph_H} (P : PN h g) (J : IT z g) (a o x y w : Int32) : PN (FX11_code a o x y w h).2 (FX12_code a o x y w g).2 := by
  unfold FX11_code FX12_code
  have P' := PN_00 P
  obtain ⟨p1, p2, p3, p4, p5, p6⟩ := P
  have f : iv 0 24 (g 1 a.toNatClampNeg) := ITv J 1 _
  have k24 : (24 : Int32).toInt = 24 := by decide
  have k0 : (0 : Int32).toInt = 0 := by decide
  have k19 : (19 : Int32).toInt = 19 := by decide
  by_cases c : 0 ≤ a.toInt ∧ a.toInt ≤ 3
  · have fa : iv 0 3 a := c
    have an := iv_nat fa rfl
    rw [if_neg (fun w => (isT_iff a).mp w c), if_neg (fun w => isIn_iff.mp w (by rw [l0, l3]; exact c)), p1 a.toNatClampNeg (by omega)]
    by_cases d : 0 ≤ o.toInt ∧ o.toInt ≤ 19
    · rw [if_neg (by rw [Int32.lt_iff_toInt_lt, k0]; omega), if_pos (by rw [Int32.le_iff_toInt_le, k19]; omega), if_neg (fun w => isIn_iff.mp w (by rw [l0, l19]; exact d))]
      by_cases e : g 1 a.toNatClampNeg = 24
      · rw [if_pos e, if_neg (by rw [e]; decide)]
        exact P'
      · have e' : ¬ (g 1 a.toNatClampNeg).toInt = 24 := fun w => e (tI (w.trans k24.symm))
        unfold iv at f
        have f3 : iv 0 23 (g 1 a.toNatClampNeg) := ⟨f.1, by omega⟩
        rw [if_neg e, if_pos (by rw [Int32.lt_iff_toInt_lt, k24]; omega)]
        unfold FX5_firstPart_n
        obtain ⟨i1, i96⟩ := part_ix (j := 1) (v := 1) fa f3 (by decide) (by decide)
        obtain ⟨i2, -⟩ := part_ix (j := 2) (v := 2) fa f3 (by decide) (by decide)
        obtain ⟨i3, -⟩ := part_ix (j := 3) (v := 3) fa f3 (by decide) (by decide)
        have i0 := part_ix0 fa f3
        rw [i0, i1, i2, i3]
        generalize ((24 * a) + g 1 a.toNatClampNeg).toNatClampNeg = N at *
        dsimp only
        refine ⟨fun t ht => ?_, fun k hk => ?_, ?_, ?_, ?_, fun k => ?_⟩
        · by_cases q : t = a.toNatClampNeg
          · simp [hs_get, q]
          · simpa [hs_get, q] using p1 t ht
        · obtain ⟨u0, u1, u2, u3⟩ := p2 k hk
          by_cases q : k = N
          · subst q
            refine ⟨?_, ?_, ?_, ?_⟩
            · rw [hs_o (by simp), hs_o (by omega), hs_o (by omega), hs_o (by omega), hs_self, hs_o (by simp), hs_o (by simp), hs_o (by simp), hs_o (by simp), hs_self]
            · rw [hs_o (by simp), hs_o (by omega), hs_o (by omega), hs_self, hs_o (by simp), hs_o (by simp), hs_o (by simp), hs_self]
            · rw [hs_o (by simp), hs_o (by omega), hs_self, hs_o (by simp), hs_o (by simp), hs_self]
            · rw [hs_o (by simp), hs_self, hs_o (by simp), hs_self]
          · refine ⟨?_, ?_, ?_, ?_⟩
            · rw [hs_o (by simp), hs_o (by omega), hs_o (by omega), hs_o (by omega), hs_o (by omega), hs_o (by simp), hs_o (by simp), hs_o (by simp), hs_o (by simp), hs_o (by omega), hs_o (by simp)]
              exact u0
            · rw [hs_o (by simp), hs_o (by omega), hs_o (by omega), hs_o (by omega), hs_o (by omega), hs_o (by simp), hs_o (by simp), hs_o (by simp), hs_o (by omega), hs_o (by simp), hs_o (by simp)]
              exact u1
            · rw [hs_o (by simp), hs_o (by omega), hs_o (by omega), hs_o (by omega), hs_o (by omega), hs_o (by simp), hs_o (by simp), hs_o (by omega), hs_o (by simp), hs_o (by simp), hs_o (by simp)]
              exact u2
            · rw [hs_o (by simp), hs_o (by omega), hs_o (by omega), hs_o (by omega), hs_o (by omega), hs_o (by simp), hs_o (by omega), hs_o (by simp), hs_o (by simp), hs_o (by simp), hs_o (by simp)]
              exact u3
        · simpa [hs_get] using p3
        · simpa [hs_get] using p4
        · simpa [hs_get] using p5
        · by_cases q : k = N
          · rw [hs_o (by simp), hs_o (by simp), hs_o (by simp), hs_o (by simp), q, hs_self]
            exact d
          · rw [hs_o (by simp), hs_o (by simp), hs_o (by simp), hs_o (by simp), hs_o (by omega), hs_o (by simp)]
            exact p6 k
    · rw [if_pos (isIn_iff.mpr (by rw [l0, l19]; exact d))]
      by_cases e : o < 0
      · rw [if_pos e]
        exact P'
      · rw [if_neg e, if_neg (by
          rw [Int32.lt_iff_toInt_lt, k0] at e
          rw [Int32.le_iff_toInt_le, k19]
          omega)]
        exact P'
  · rw [if_pos ((isT_iff a).mpr c), if_pos (isIn_iff.mpr (by rw [l0, l3]; exact c))]
    exact P'
theorem PLQ_input {z : zT} {g : ph_H} (P : PLQ g) (J : IT z g) (a : Int32) : PLQ (FX12_input a g).2 := by
  unfold FX12_input
  have f : iv 0 30 (g 0 7) := ITv J 0 7
  have fn := iv_nat f rfl
  unfold iv at f
  have k30 : (30 : Int32).toInt = 30 := by decide
  have k1 : (1 : Int32).toInt = 1 := by decide
  by_cases c : g 0 7 = 30
  · rw [if_pos c]
    exact PLQ_fr P (EQ_s rfl (EQ_r g)) (EQ_s rfl (EQ_r g))
  · rw [if_neg c]
    have c' : ¬ (g 0 7).toInt = 30 := fun w => c (tI (w.trans k30.symm))
    have e1 : (g 0 7 + 1).toInt = (g 0 7).toInt + 1 := by rw [ti_add (by omega) (by omega), k1]
    dsimp only
    intro n
    simp only [hs_get] at n
    simp (decide := true) only [↓reduceIte] at n
    obtain ⟨⟨p1, p2, p3⟩, p4⟩ := P n
    refine ⟨⟨?_, ?_, fun k hk => ?_⟩, ?_⟩
    · simpa [hs_get] using p1
    · simp [hs_get, e1]
      omega
    · have hk' : (k : Int) < (g 0 41).toInt := by simpa [hs_get] using hk
      have : ¬ k = (g 0 7).toNatClampNeg := by omega
      simpa [hs_get, this] using p3 k hk'
    · simpa [CI, hs_get] using p4
theorem LR_code {z : zT} {h g : ph_H} (P : LR h g) (J : IT z g) (a o x y w : Int32) : LR (FX11_code a o x y w h).2 (FX12_code a o x y w g).2 := ⟨PN_code P.1 J a o x y w, QR_fr P.2.1 (EQ_sub (fun k i q => pSR_pCR k i (pQ_pSR k i q)) (frCR_FX11_code _ _ _ _ _ _ (EQ_r h))) (EQ_sub pVR0_pVR (frVR_FX12_code _ _ _ _ _ _ (EQ_r g))), SR_fr P.2.2.1 (EQ_sub pSR_pCR (frCR_FX11_code _ _ _ _ _ _ (EQ_r h))) (EQ_sub pVR0_pVR (frVR_FX12_code _ _ _ _ _ _ (EQ_r g))), PLQ_fr P.2.2.2.1 (EQ_sub pX6_pVR (frVR_FX12_code _ _ _ _ _ _ (EQ_r g))) (EQ_sub pX7_pVI (frVI_FX12_code _ _ _ _ _ _ (EQ_r g))), by rw [frCR_FX11_code _ _ _ _ _ _ (EQ_r h) 0 12 rfl, frVR_FX12_code _ _ _ _ _ _ (EQ_r g) 0 66 rfl]; exact P.2.2.2.2.1, FO_fr P.2.2.2.2.2 (EQ_sub pFO_pCR (frCR_FX11_code _ _ _ _ _ _ (EQ_r h))) (EQ_sub pVFO_pVR (frVR_FX12_code _ _ _ _ _ _ (EQ_r g)))⟩
theorem LR_clear {z : zT} {h g : ph_H} (P : LR h g) (J : IT z g) (a : Int32) : LR (FX11_clear a h).2 (FX12_clear a g).2 := ⟨PN_clear P.1 a, QR_fr P.2.1 (EQ_sub (fun k i q => pSR_pCR k i (pQ_pSR k i q)) (frCR_FX11_clear _ _ (EQ_r h))) (EQ_sub pVR0_pVR (frVR_FX12_clear _ _ (EQ_r g))), SR_fr P.2.2.1 (EQ_sub pSR_pCR (frCR_FX11_clear _ _ (EQ_r h))) (EQ_sub pVR0_pVR (frVR_FX12_clear _ _ (EQ_r g))), PLQ_fr P.2.2.2.1 (EQ_sub pX6_pVR (frVR_FX12_clear _ _ (EQ_r g))) (EQ_sub pX7_pVI (frVI_FX12_clear _ _ (EQ_r g))), by rw [frCR_FX11_clear _ _ (EQ_r h) 0 12 rfl, frVR_FX12_clear _ _ (EQ_r g) 0 66 rfl]; exact P.2.2.2.2.1, FO_fr P.2.2.2.2.2 (EQ_sub pFO_pCR (frCR_FX11_clear _ _ (EQ_r h))) (EQ_sub pVFO_pVR (frVR_FX12_clear _ _ (EQ_r g)))⟩
theorem LR_cell {z : zT} {h g : ph_H} (P : LR h g) (J : IT z g) (a v : Int32) : LR (FX11_cell a v h).2 (FX12_cell a v g).2 := ⟨PN_cell P.1 a v, QR_fr P.2.1 (EQ_sub (fun k i q => pSR_pCR k i (pQ_pSR k i q)) (frCR_FX11_cell _ _ _ (EQ_r h))) (EQ_sub pVR0_pVR (frVR_FX12_cell _ _ _ (EQ_r g))), SR_fr P.2.2.1 (EQ_sub pSR_pCR (frCR_FX11_cell _ _ _ (EQ_r h))) (EQ_sub pVR0_pVR (frVR_FX12_cell _ _ _ (EQ_r g))), PLQ_fr P.2.2.2.1 (EQ_sub pX6_pVR (frVR_FX12_cell _ _ _ (EQ_r g))) (EQ_sub pX7_pVI (frVI_FX12_cell _ _ _ (EQ_r g))), by rw [frCR_FX11_cell _ _ _ (EQ_r h) 0 12 rfl, frVR_FX12_cell _ _ _ (EQ_r g) 0 66 rfl]; exact P.2.2.2.2.1, FO_fr P.2.2.2.2.2 (EQ_sub pFO_pCR (frCR_FX11_cell _ _ _ (EQ_r h))) (EQ_sub pVFO_pVR (frVR_FX12_cell _ _ _ (EQ_r g)))⟩
theorem LR_input {z : zT} {h g : ph_H} (P : LR h g) (J : IT z g) (a : Int32) : LR (FX11_input a h).2 (FX12_input a g).2 := ⟨PN_input P.1 J a, QR_fr P.2.1 (EQ_sub (fun k i q => pSR_pCR k i (pQ_pSR k i q)) (frCR_FX11_input _ _ (EQ_r h))) (EQ_sub pVR0_pVR (frVR_FX12_input _ _ (EQ_r g))), SR_fr P.2.2.1 (EQ_sub pSR_pCR (frCR_FX11_input _ _ (EQ_r h))) (EQ_sub pVR0_pVR (frVR_FX12_input _ _ (EQ_r g))), PLQ_input P.2.2.2.1 J a, by rw [frCR_FX11_input _ _ (EQ_r h) 0 12 rfl, frVR_FX12_input _ _ (EQ_r g) 0 66 rfl]; exact P.2.2.2.2.1, FO_fr P.2.2.2.2.2 (EQ_sub pFO_pCR (frCR_FX11_input _ _ (EQ_r h))) (EQ_sub pVFO_pVR (frVR_FX12_input _ _ (EQ_r g)))⟩
theorem LR_turn {z : zT} {h g : ph_H} (P : LR h g) (J : IT z g) (a n : Int32) : LR (FX11_turn a n h).2 (FX12_turn a n g).2 := ⟨PN_turn P.1 J a n, QR_fr P.2.1 (EQ_sub (fun k i q => pSR_pCR k i (pQ_pSR k i q)) (frCR_FX11_turn _ _ _ (EQ_r h))) (EQ_sub pVR0_pVR (frVR_FX12_turn _ _ _ (EQ_r g))), SR_fr P.2.2.1 (EQ_sub pSR_pCR (frCR_FX11_turn _ _ _ (EQ_r h))) (EQ_sub pVR0_pVR (frVR_FX12_turn _ _ _ (EQ_r g))), PLQ_fr P.2.2.2.1 (EQ_sub pX6_pVR (frVR_FX12_turn _ _ _ (EQ_r g))) (EQ_sub pX7_pVI (frVI_FX12_turn _ _ _ (EQ_r g))), by rw [frCR_FX11_turn _ _ _ (EQ_r h) 0 12 rfl, frVR_FX12_turn _ _ _ (EQ_r g) 0 66 rfl]; exact P.2.2.2.2.1, FO_fr P.2.2.2.2.2 (EQ_sub pFO_pCR (frCR_FX11_turn _ _ _ (EQ_r h))) (EQ_sub pVFO_pVR (frVR_FX12_turn _ _ _ (EQ_r g)))⟩
theorem LR_freely {z : zT} {h g : ph_H} (P : LR h g) (J : IT z g) : LR (FX11_freely h).2 (FX12_freely g).2 := ⟨PN_freely P.1, QR_fr P.2.1 (EQ_sub (fun k i q => pSR_pCR k i (pQ_pSR k i q)) (frCR_FX11_freely _ (EQ_r h))) (EQ_sub pVR0_pVR (frVR_FX12_freely _ (EQ_r g))), SR_fr P.2.2.1 (EQ_sub pSR_pCR (frCR_FX11_freely _ (EQ_r h))) (EQ_sub pVR0_pVR (frVR_FX12_freely _ (EQ_r g))), PLQ_fr P.2.2.2.1 (EQ_sub pX6_pVR (frVR_FX12_freely _ (EQ_r g))) (EQ_sub pX7_pVI (frVI_FX12_freely _ (EQ_r g))), by rw [frCR_FX11_freely _ (EQ_r h) 0 12 rfl, frVR_FX12_freely _ (EQ_r g) 0 66 rfl]; exact P.2.2.2.2.1, FO_fr P.2.2.2.2.2 (EQ_sub pFO_pCR (frCR_FX11_freely _ (EQ_r h))) (EQ_sub pVFO_pVR (frVR_FX12_freely _ (EQ_r g)))⟩
theorem LR_run {z : zT} {h g : ph_H} (P : LR h g) (J : IT z g) : LR (FX11_run h).2 (FX12_run g).2 := by
  refine ⟨PN_fr P.1 (EQ_sub pN0_pN (frN_FX11_run _ (EQ_r h))) (EQ_sub pVN0_pVN (frVN_FX12_run _ (EQ_r g))), ?_⟩
  obtain ⟨hE, gE, U, e1, e2⟩ := run_sim P.1 J
  have o := run_over U
  obtain ⟨R, T, H, N, F, KK⟩ := U
  obtain ⟨t1, t2, t3, t4, t5, t6⟩ := T
  have k0 : (0 : Int32).toInt = 0 := by decide
  rw [e1, e2]
  have X : (FX11_run_40 (FX10_record_s_29 hE)).2 = hs (hs (hs (hs (hs (hs (hs hE 35 13 (FX10_howOver_s hE)) 35 15 (hE 15 10)) 35 16 (hE 15 12)) 47 6 0) 0 8 1) 0 9 (hE 35 11)) 0 10 (hE 35 11) := by
    unfold FX11_run_40 FX11_run_47 FX4_forget FX10_record_s_29
    simp [hs_get]
  have Y : (FX12_run_150 gE).2 = hs (hs (hs (hs (hs (hs (hs gE 0 36 1) 0 37 (FX12_ending (hs gE 0 36 1))) 0 38 (gE 0 24)) 0 39 (gE 0 25)) 0 40 (if gE 0 25 ≤ 0 then -1 else gE 0 26)) 0 41 (gE 0 23)) 0 42 (gE 0 24) := by
    unfold FX12_run_150 FX12_run_195
    split <;> simp [hs_get]
  rw [X, Y]
  have L : FX10_latestThread (hs (hs (hs (hs (hs (hs (hs hE 35 13 (FX10_howOver_s hE)) 35 15 (hE 15 10)) 35 16 (hE 15 12)) 47 6 0) 0 8 1) 0 9 (hE 35 11)) 0 10 (hE 35 11)) = FX10_latestThread hE := by
    unfold FX10_latestThread
    simp [hs_get]
  refine ⟨⟨by simp [hs_get], fun _ => ⟨?_, ?_, ?_, ?_, ?_, ?_, ?_, ?_, ?_, ?_⟩⟩, ?_, ?_, ?_, ?_⟩
  · simp [hs_get, o]
  · simp [hs_get, t1]
  · simp [hs_get, t3]
  · rw [L, t6]
    simp only [hs_get]
    by_cases c : gE 0 25 = 0
    · simp (decide := true) [c]
    · have : ¬ gE 0 25 ≤ 0 := fun w => c (tI (by rw [Int32.le_iff_toInt_le, k0] at w; omega))
      simp [c, this]
  · simp only [hs_get]
    simp [KK.1, R.2.2.2.1.1]
  · simp [hs_get, t2]
  · simp [hs_get, R.2.2.2.2.1.1]
  · simp [hs_get, t1]
  · intro s a b
    have := t4 s a (by simpa [hs_get] using b)
    simpa [TRs, hs_get] using this
  · intro i hi
    have := t5 i (by simpa [hs_get] using hi)
    simpa [hs_get] using this
  · intro _
    obtain ⟨z', I⟩ := RH_IM H
    have s300 : iv 0 300 (gE 0 24) := IMv I 0 24
    unfold iv at s300
    obtain ⟨Gs, S1, S2, S3, S4, S5⟩ := KK.2
    have y38 : hs (hs (hs (hs (hs (hs (hs gE 0 36 1) 0 37 (FX12_ending (hs gE 0 36 1))) 0 38 (gE 0 24)) 0 39 (gE 0 25)) 0 40 (if gE 0 25 ≤ 0 then -1 else gE 0 26)) 0 41 (gE 0 23)) 0 42 (gE 0 24) 0 38 = gE 0 24 := by simp [hs_get]
    have x9 : hs (hs (hs (hs (hs (hs (hs hE 35 13 (FX10_howOver_s hE)) 35 15 (hE 15 10)) 35 16 (hE 15 12)) 47 6 0) 0 8 1) 0 9 (hE 35 11)) 0 10 (hE 35 11) 0 9 = gE 0 24 := by simp [hs_get, t1]
    rw [y38, x9, hs_self]
    refine ⟨s300.1, Int.le_refl _, Gs, SQ_fr S1 (fun k i q => ?_), TP_fr S3 (fun k i q => ?_), s300.1, Int.le_refl _, ?_⟩
    · rw [hs_o (by omega), hs_o (by omega), hs_o (by omega), hs_o (by omega), hs_o (by omega), hs_o (by omega), hs_o (by omega)]
    · rw [hs_o (by omega), hs_o (by omega), hs_o (by omega), hs_o (by omega), hs_o (by omega), hs_o (by omega), hs_o (by omega)]
    · rw [S2]
      refine R.congr (fun k i q => ?_) (fun _ _ _ => rfl) (fun _ _ => rfl)
      have n0 : ¬ (k = 0 ∨ k = 35 ∨ k = 47) := fun w => by
        rcases w with w | w | w <;> rw [w] at q <;> exact absurd q (by simp [cM])
      rw [hs_o (by omega), hs_o (by omega), hs_o (by omega), hs_o (by omega), hs_o (by omega), hs_o (by omega), hs_o (by omega)]
  · intro _
    obtain ⟨z', I⟩ := RH_IM H
    have f23 : iv 0 30 (gE 0 23) := IMv I 0 23
    obtain ⟨Gs, S1, S2, S3, S4, S5⟩ := KK.2
    have kn0 : kn gE = gE 0 7 := by
      unfold kn
      obtain ⟨z', zm1, I', z33, rm, hch⟩ := H
      rw [if_pos ((IMz I' 0 33 rfl).trans z33)]
    have r5 := R.2.2.2.2.1.2.2.1
    rw [kn0] at r5
    refine ⟨⟨?_, ?_, fun k hk => ?_⟩, ?_⟩
    · simpa [hs_get] using f23.1
    · simpa [hs_get] using r5
    · have hk' : (k : Int) < (gE 0 23).toInt := by simpa [hs_get] using hk
      simpa [hs_get] using S4 k hk'
    · simpa [CI, hs_get] using S5
  · have a := frN_FX11_run (h0 := h) _ (EQ_r h) 0 12 rfl
    have b := frVN_FX12_run (h0 := g) _ (EQ_r g) 0 66 rfl
    rw [e1, X] at a
    rw [e2, Y] at b
    rw [a, b]
    exact P.2.2.2.2.1
  · have a := FO_fr P.2.2.2.2.2 (EQ_sub pFO_pN (frN_FX11_run _ (EQ_r h))) (EQ_sub pVFO_pVN (frVN_FX12_run _ (EQ_r g)))
    rw [e1, X, e2, Y] at a
    exact a
theorem isM_iff {h : ph_H} (x : Int32) : FX11_isMoment x h = 0 ↔ ¬ (0 ≤ x.toInt ∧ x.toInt ≤ (h 35 11).toInt) := by
  have h0 : (0 : Int32).toInt = 0 := by decide
  unfold FX11_isMoment
  by_cases a : x < 0
  · rw [if_pos a]
    rw [Int32.lt_iff_toInt_lt, h0] at a
    exact ⟨fun _ => by omega, fun _ => rfl⟩
  · rw [if_neg a]
    rw [Int32.lt_iff_toInt_lt, h0] at a
    by_cases b : h 35 11 < x
    · rw [if_pos b]
      rw [Int32.lt_iff_toInt_lt] at b
      exact ⟨fun _ => by omega, fun _ => rfl⟩
    · rw [if_neg b]
      rw [Int32.lt_iff_toInt_lt] at b
      exact ⟨fun w => absurd w (by decide), fun w => by omega⟩
theorem LR_00 {h g : ph_H} (P : LR h g) : LR h (hs g 0 0 0) := LR_fr P (EQ_r h) (EQ_s rfl (EQ_r g))
theorem LR_view {h g : ph_H} (P : LR h g) (n : ¬ g 0 36 = 0) (v : Int32) (v0 : 0 ≤ v.toInt) (v1 : v.toInt ≤ (g 0 38).toInt) : LR (hs h 0 10 v) (hs g 0 42 v) := by
  obtain ⟨P, ⟨Q, q⟩, SS, XX⟩ := P
  refine ⟨PN_fr P (EQ_s rfl (EQ_r h)) (EQ_s rfl (EQ_r g)), ⟨by simpa [hs_get] using Q, fun _ => ?_⟩, ?_, PLQ_fr XX.1 (EQ_s rfl (EQ_r g)) (EQ_s rfl (EQ_r g)), by rw [hs_o (by simp), hs_o (by simp)]; exact XX.2.1, FO_fr XX.2.2 (EQ_s rfl (EQ_r h)) (EQ_s rfl (EQ_r g))⟩
  case refine_2 =>
    intro _
    obtain ⟨-, -, Gs, q1, q2, q3, q4, q5⟩ := SS n
    have e38 : hs g 0 42 v 0 38 = g 0 38 := hs_o (by simp)
    have e9 : hs h 0 10 v 0 9 = h 0 9 := hs_o (by simp)
    rw [e38, e9, hs_self]
    refine ⟨v0, v1, Gs, SQ_fr q1 (fun k i q => hs_o (by omega)), TP_fr q2 (fun k i q => hs_o (by omega)), q3, q4, q5.congr (fun k i q => hs_o (fun w => ?_)) (fun _ _ _ => rfl) (fun _ _ => rfl)⟩
    rw [w.1] at q
    exact absurd q (by simp [cM])
  obtain ⟨q1, q2, q3, q4, q5, q6, q7, q8, q9, q10⟩ := q n
  refine ⟨by simpa [hs_get] using q1, by simpa [hs_get] using q2, by simpa [hs_get] using q3, ?_, by simpa [hs_get] using q5, by simpa [hs_get] using q6, by simpa [hs_get] using q7, by simp [hs_get], fun s a b => ?_, fun i hi => ?_⟩
  · have : FX10_latestThread (hs h 0 10 v) = FX10_latestThread h := by
      unfold FX10_latestThread
      simp [hs_get]
    rw [this]
    simpa [hs_get] using q4
  · have := q9 s a (by simpa [hs_get] using b)
    simpa [TRs, hs_get] using this
  · have := q10 i (by simpa [hs_get] using hi)
    simpa [hs_get] using this
theorem to_both {h g : ph_H} (P : LR h g) (s : Int32) : (FX11_to s h).1 = (FX12_to s g).1 ∧ LR (FX11_to s h).2 (FX12_to s g).2 := by
  have Pz := LR_00 P
  have Q := P.2.1
  have SS := P.2.2.1
  unfold FX11_to FX12_to
  rw [Q.1]
  by_cases c : g 0 36 = 0
  · rw [if_pos c, if_pos c]
    exact ⟨rfl, Pz⟩
  · rw [if_neg c, if_neg c]
    have q := Q.2 c
    have e : FX11_isMoment s h = 0 ↔ FX12_isIn s.toInt64 0 ((g 0 38).toInt64) = 0 := by
      rw [isM_iff, isIn_iff, l0, Int32.toInt_toInt64, q.2.1]
    by_cases d : FX12_isIn s.toInt64 0 ((g 0 38).toInt64) = 0
    · rw [if_pos d, if_pos (e.mpr d)]
      exact ⟨rfl, Pz⟩
    · rw [if_neg d, if_neg (fun w => d (e.mp w))]
      have d2 : 0 ≤ s.toInt ∧ s.toInt ≤ (g 0 38).toInt := by
        apply Classical.byContradiction
        intro w
        exact d (isIn_iff.mpr (by rw [l0, Int32.toInt_toInt64]; exact w))
      exact ⟨rfl, LR_view Pz (by rw [hs_o (by simp)]; exact c) s d2.1 (by rw [hs_o (by simp)]; exact d2.2)⟩
theorem back_both {h g : ph_H} (P : LR h g) (n : Int32) : (FX11_back n h).1 = (FX12_back n g).1 ∧ LR (FX11_back n h).2 (FX12_back n g).2 := by
  have Pz := LR_00 P
  have Q := P.2.1
  have SS := P.2.2.1
  unfold FX11_back FX12_back
  rw [Q.1]
  by_cases c : g 0 36 = 0
  · rw [if_pos c, if_pos c]
    exact ⟨rfl, Pz⟩
  · rw [if_neg c, if_neg c]
    have q := Q.2 c
    rw [q.2.2.2.2.2.2.2.1]
    by_cases d : n < 0
    · rw [if_pos d, if_pos d]
      exact ⟨rfl, Pz⟩
    · rw [if_neg d, if_neg d]
      by_cases e : n ≤ g 0 42
      · rw [if_pos e, if_pos e]
        obtain ⟨w0, w1, -⟩ := SS c
        have k0 : (0 : Int32).toInt = 0 := by decide
        have d2 := d
        have e2 := e
        rw [Int32.lt_iff_toInt_lt, k0] at d2
        rw [Int32.le_iff_toInt_le] at e2
        have es : (g 0 42 - n).toInt = (g 0 42).toInt - n.toInt := by
          have b1 := Int32.toInt_lt (g 0 42)
          have b2 := Int32.toInt_lt n
          rw [Int32.toInt_sub, bm_in (by omega) (by omega)]
        exact ⟨rfl, LR_view Pz (by rw [hs_o (by simp)]; exact c) _ (by rw [es]; omega) (by rw [hs_o (by simp), es]; omega)⟩
      · rw [if_neg e, if_neg e]
        exact ⟨rfl, Pz⟩
end MG_48_x37B4
section MG_48_x38B5
/-! what told, change and step answer -/
theorem told_ans {z : zT} {h g : ph_H} (P : LR h g) (J : IT z g) (a : Int32) : FX11_told a h = (FX12_told a g).1 := by
  obtain ⟨-, ⟨Q, q⟩, -⟩ := P
  unfold FX11_told FX12_told
  rw [Q]
  by_cases c : g 0 36 = 0
  · rw [if_pos c, if_pos c]
  · obtain ⟨q1, q2, q3, q4, q5, q6, q7, q8, q9, q10⟩ := q c
    rw [if_neg c, if_neg c, q1, q2, q3, q5, q6, q7]
    repeat' split
    all_goals first | rfl | (rw [q4]; simp [*])
theorem change_ans {z : zT} {h g : ph_H} (P : LR h g) (J : IT z g) (a b : Int32) : FX11_change a b h = (FX12_change a b g).1 := by
  obtain ⟨-, ⟨Q, q⟩, -⟩ := P
  have k0 : (0 : Int32).toInt = 0 := by decide
  have k1 : (1 : Int32).toInt = 1 := by decide
  unfold FX11_change FX12_change FX12_change_36
  rw [Q]
  by_cases c : g 0 36 = 0
  · rw [if_pos c, if_pos c]
  · obtain ⟨q1, q2, q3, q4, q5, q6, q7, q8, q9, q10⟩ := q c
    rw [if_neg c, if_neg c, q6]
    by_cases d : a < 0
    · rw [if_pos d, if_pos d]
    · rw [if_neg d, if_neg d]
      by_cases e : g 0 60 ≤ a
      · rw [if_pos e, if_pos e]
      · rw [if_neg e, if_neg e]
        rw [Int32.lt_iff_toInt_lt, k0] at d
        rw [Int32.le_iff_toInt_le] at e
        have an : (a.toNatClampNeg : Int) = a.toInt := by
          rw [← Int32.toNat_toInt]
          omega
        obtain ⟨r1, r2⟩ := q10 a.toNatClampNeg (by omega)
        rw [r1, r2]
        by_cases f : 0 ≤ b.toInt ∧ b.toInt ≤ 1
        · rw [if_neg (fun w => isIn_iff.mp w (by rw [l0, l1]; exact f)), if_neg (by rw [Int32.lt_iff_toInt_lt, k0]; omega), if_pos (by rw [Int32.le_iff_toInt_le, k1]; omega)]
          split <;> rfl
        · rw [if_pos (isIn_iff.mpr (by rw [l0, l1]; exact f))]
          by_cases u : b < 0
          · rw [if_pos u]
          · rw [if_neg u, if_neg (by
              rw [Int32.lt_iff_toInt_lt, k0] at u
              rw [Int32.le_iff_toInt_le, k1]
              omega)]
theorem step_ans {z : zT} {h g : ph_H} (P : LR h g) (J : IT z g) (a b : Int32) : FX11_step a b h = (FX12_step_ a b g).1 := by
  obtain ⟨-, ⟨Q, q⟩, -⟩ := P
  have k0 : (0 : Int32).toInt = 0 := by decide
  have k1 : (1 : Int32).toInt = 1 := by decide
  unfold FX11_step FX12_step_
  rw [Q]
  by_cases c : g 0 36 = 0
  · rw [if_pos c, if_pos c]
  · obtain ⟨q1, q2, q3, q4, q5, q6, q7, q8, q9, q10⟩ := q c
    rw [if_neg c, if_neg c, q2]
    by_cases f : 1 ≤ a.toInt ∧ a.toInt ≤ (g 0 38).toInt
    · have an : (a.toNatClampNeg : Int) = a.toInt := by
        rw [← Int32.toNat_toInt]
        omega
      obtain ⟨r1, r2, r3, r4, r5, r6, r7, r8⟩ := q9 a.toNatClampNeg (by omega) (by omega)
      rw [if_neg (by rw [Int32.lt_iff_toInt_lt, k1]; omega), if_pos (by rw [Int32.le_iff_toInt_le]; omega), if_neg (fun w => isIn_iff.mp w (by rw [l1, Int32.toInt_toInt64]; exact f)), r1, r2, r3, r4, r5, r6]
      repeat' split
      all_goals rfl
    · rw [if_pos (c := FX12_isIn a.toInt64 1 ((g 0 38).toInt64) = 0) (isIn_iff.mpr (by rw [l1, Int32.toInt_toInt64]; exact f))]
      by_cases u : a < 1
      · rw [if_pos u]
      · rw [if_neg u, if_neg (by
          rw [Int32.lt_iff_toInt_lt, k1] at u
          rw [Int32.le_iff_toInt_le]
          omega)]
end MG_48_x38B5
section MG_48_x39B6
/-! what last and next answer -/
theorem pl_no {v p : Int32} (a : PLp v) (n : p < 0) (m : ¬ p = -2) : ¬ v = p := by
  have k0 : (0 : Int32).toInt = 0 := by decide
  rw [Int32.lt_iff_toInt_lt, k0] at n
  rintro rfl
  rcases a with a | a
  · exact m a
  · omega
theorem next_in {h g : ph_H} {p : Int32} (m : ¬ p = -2) (e : h 35 11 = g 0 38) (r : ∀ s : Nat, 0 < s → (s : Int) ≤ (g 0 38).toInt → h 39 s = g 32 s ∧ PLp (g 32 s)) (b : (g 0 38).toInt ≤ 300) : ∀ (q : Nat) (x : Int32), 0 < x.toInt → x.toInt ≤ 301 → FX10_nextRead_12 q p x h = (FX12_next_35 q p x g).1
  | 0, x, _, _ => rfl
  | q + 1, x, x0, x1 => by
    have k1 : (1 : Int32).toInt = 1 := by decide
    unfold FX10_nextRead_12 FX12_next_35 FX12_next_59
    rw [e]
    by_cases c : g 0 38 < x
    · rw [if_pos c, if_pos c]
    · rw [if_neg c, if_neg c]
      rw [Int32.lt_iff_toInt_lt] at c
      have xn : (x.toNatClampNeg : Int) = x.toInt := by
        rw [← Int32.toNat_toInt]
        omega
      have e1 : (x + 1).toInt = x.toInt + 1 := by rw [ti_add (by omega) (by omega), k1]
      obtain ⟨r1, r2⟩ := r x.toNatClampNeg (by omega) (by omega)
      have ih := next_in m e r b q (x + 1) (by omega) (by omega)
      rw [r1]
      by_cases d : g 32 x.toNatClampNeg = p
      · rw [if_pos d, if_pos d]
        by_cases n : p < 0
        · exact absurd d (pl_no r2 n m)
        · rw [if_neg n]
      · rw [if_neg d, if_neg d]
        exact ih
theorem next_m2 {g : ph_H} : ∀ (q : Nat) (x : Int32), (FX12_next_35 q (-2) x g).1 = 0
  | 0, x => rfl
  | q + 1, x => by
    unfold FX12_next_35 FX12_next_59
    split
    · rfl
    · split
      · rw [if_pos (by decide)]
        exact next_m2 q (x + 1)
      · exact next_m2 q (x + 1)
theorem steps_iv {z : zT} {g : ph_H} (J : IT z g) : 0 ≤ (g 0 38).toInt ∧ (g 0 38).toInt ≤ 300 := ITv J 0 38
theorem next_00 (q : Nat) (p x : Int32) (g : ph_H) : (FX12_next_35 q p x (hs g 0 0 0)).1 = (FX12_next_35 q p x g).1 := by
  induction q generalizing x with
  | zero => rfl
  | succ q ih =>
    unfold FX12_next_35 FX12_next_59
    rw [hs_o (by simp), hs_o (by simp)]
    split
    · rfl
    · split
      · split
        · exact ih _
        · rfl
      · exact ih _
theorem mom_eq {h g : ph_H} {s : Int32} (e : h 35 11 = g 0 38) : FX11_isMoment s h = 0 ↔ FX12_isIn s.toInt64 0 ((g 0 38).toInt64) = 0 := by
  rw [isM_iff, isIn_iff, l0, Int32.toInt_toInt64, e]
theorem mom_in {g : ph_H} {s : Int32} (d : ¬ FX12_isIn s.toInt64 0 ((g 0 38).toInt64) = 0) : 0 ≤ s.toInt ∧ s.toInt ≤ (g 0 38).toInt := by
  apply Classical.byContradiction
  intro w
  exact d (isIn_iff.mpr (by rw [l0, Int32.toInt_toInt64]; exact w))
theorem next_ans {z : zT} {h g : ph_H} (P : LR h g) (J : IT z g) (p s : Int32) : FX11_next p s h = (FX12_next p s g).1 := by
  obtain ⟨-, ⟨Q, q⟩, -⟩ := P
  have sb := steps_iv J
  have k1 : (1 : Int32).toInt = 1 := by decide
  unfold FX11_next FX12_next
  rw [Q]
  by_cases c : g 0 36 = 0
  · rw [if_pos c, if_pos c]
  · obtain ⟨q1, q2, q3, q4, q5, q6, q7, q8, q9, q10⟩ := q c
    rw [if_neg c, if_neg c]
    by_cases d : FX12_isIn s.toInt64 0 ((g 0 38).toInt64) = 0
    · rw [if_pos d, if_pos ((mom_eq q2).mpr d)]
    · rw [if_neg d, if_neg (fun w => d ((mom_eq q2).mp w)), next_00]
      obtain ⟨s0, s1⟩ := mom_in d
      have e1 : (s + 1).toInt = s.toInt + 1 := by rw [ti_add (by omega) (by omega), k1]
      unfold FX10_nextRead
      by_cases m : p = -2
      · rw [if_pos m, m, next_m2]
      · rw [if_neg m]
        exact next_in m q2 (fun s a b => ⟨(q9 s a b).2.2.2.1, (q9 s a b).2.2.2.2.2.2.2.2.1⟩) sb.2 2000 (s + 1) (by omega) (by omega)
theorem last_in {h : ph_H} {p : Int32} : ∀ (q : Nat) (x : Int32), 0 ≤ x.toInt → x.toInt ≤ 300 → x.toInt < (q : Int) → (FX10_lastWrite_10 q p x h = 0 ∧ ∀ k : Nat, 0 < k → (k : Int) ≤ x.toInt → ¬ h 40 k = p) ∨ (∃ k : Nat, 0 < k ∧ (k : Int) ≤ x.toInt ∧ h 40 k = p ∧ (FX10_lastWrite_10 q p x h).toInt = k ∧ ∀ j : Nat, k < j → (j : Int) ≤ x.toInt → ¬ h 40 j = p)
  | 0, x, a, b, m => by omega
  | q + 1, x, a, b, m => by
    have k0 : (0 : Int32).toInt = 0 := by decide
    have kn1 : (-1 : Int32).toInt = -1 := by decide
    unfold FX10_lastWrite_10
    by_cases c : x ≤ 0
    · rw [if_pos c]
      rw [Int32.le_iff_toInt_le, k0] at c
      exact Or.inl ⟨rfl, fun k k0 k1 => by omega⟩
    · rw [if_neg c]
      rw [Int32.le_iff_toInt_le, k0] at c
      have xn : (x.toNatClampNeg : Int) = x.toInt := by
        rw [← Int32.toNat_toInt]
        omega
      by_cases d : h 40 x.toNatClampNeg = p
      · rw [if_pos d]
        exact Or.inr ⟨x.toNatClampNeg, by omega, by omega, d, xn.symm, fun j a b => by omega⟩
      · rw [if_neg d]
        have e1 : (x + (-1)).toInt = x.toInt - 1 := by rw [ti_add (by omega) (by omega), kn1]; omega
        rcases last_in (h := h) (p := p) q (x + (-1)) (by omega) (by omega) (by omega) with ⟨r, n⟩ | ⟨k, k0, k1, k2, k3, k4⟩
        · refine Or.inl ⟨r, fun k a b => ?_⟩
          by_cases w : k = x.toNatClampNeg
          · rw [w]; exact d
          · exact n k a (by omega)
        · refine Or.inr ⟨k, k0, by omega, k2, k3, fun j a b => ?_⟩
          by_cases w : j = x.toNatClampNeg
          · rw [w]; exact d
          · exact k4 j a (by omega)
theorem last_rf {p s : Int32} (s3 : s.toInt ≤ 300) : ∀ (q : Nat) (f x : Int32) (g : ph_H), 0 < x.toInt → x.toInt ≤ s.toInt + 1 → s.toInt + 1 - x.toInt < (q : Int) → ((FX12_last_36 q p s f x g).1 = f ∧ ∀ k : Nat, x.toInt ≤ k → (k : Int) ≤ s.toInt → ¬ (g 33 k = p ∧ ¬ p < 0)) ∨ (∃ k : Nat, x.toInt ≤ k ∧ (k : Int) ≤ s.toInt ∧ g 33 k = p ∧ ¬ p < 0 ∧ ((FX12_last_36 q p s f x g).1).toInt = k ∧ ∀ j : Nat, k < j → (j : Int) ≤ s.toInt → ¬ g 33 j = p)
  | 0, f, x, g, a, b, m => by omega
  | q + 1, f, x, g, a, b, m => by
    have k1 : (1 : Int32).toInt = 1 := by decide
    unfold FX12_last_36 FX12_last_62 FX12_last_63
    by_cases c : s < x
    · rw [if_pos c]
      rw [Int32.lt_iff_toInt_lt] at c
      exact Or.inl ⟨rfl, fun k a b => by omega⟩
    · rw [if_neg c]
      rw [Int32.lt_iff_toInt_lt] at c
      have xn : (x.toNatClampNeg : Int) = x.toInt := by
        rw [← Int32.toNat_toInt]
        omega
      have e1 : (x + 1).toInt = x.toInt + 1 := by rw [ti_add (by omega) (by omega), k1]
      have go : ∀ f', ((¬ (g 33 x.toNatClampNeg = p ∧ ¬ p < 0) ∧ f' = f) ∨ ((g 33 x.toNatClampNeg = p ∧ ¬ p < 0) ∧ f' = x)) → ((FX12_last_36 q p s f' (x + 1) g).1 = f ∧ ∀ k : Nat, x.toInt ≤ k → (k : Int) ≤ s.toInt → ¬ (g 33 k = p ∧ ¬ p < 0)) ∨ (∃ k : Nat, x.toInt ≤ k ∧ (k : Int) ≤ s.toInt ∧ g 33 k = p ∧ ¬ p < 0 ∧ ((FX12_last_36 q p s f' (x + 1) g).1).toInt = k ∧ ∀ j : Nat, k < j → (j : Int) ≤ s.toInt → ¬ g 33 j = p) := fun f' hf => by
        rcases last_rf s3 q f' (x + 1) g (by omega) (by omega) (by omega) with ⟨r, n⟩ | ⟨k, k0, k1, k2, k3, k4, k5⟩
        · rcases hf with ⟨n1, ef⟩ | ⟨y, ef⟩
          · refine Or.inl ⟨by rw [r, ef], fun k a b => ?_⟩
            by_cases w : k = x.toNatClampNeg
            · rw [w]; exact n1
            · exact n k (by omega) b
          · refine Or.inr ⟨x.toNatClampNeg, by omega, by omega, y.1, y.2, by rw [r, ef]; exact xn.symm, fun j a b w => n j (by omega) b ⟨w, y.2⟩⟩
        · exact Or.inr ⟨k, by omega, k1, k2, k3, k4, k5⟩
      by_cases d : g 33 x.toNatClampNeg = p
      · rw [if_pos d]
        by_cases n : p < 0
        · rw [if_pos n]
          exact go f (Or.inl ⟨fun w => w.2 n, rfl⟩)
        · rw [if_neg n]
          exact go x (Or.inr ⟨⟨d, n⟩, rfl⟩)
      · rw [if_neg d]
        exact go f (Or.inl ⟨fun w => d w.1, rfl⟩)
theorem last_ans {z : zT} {h g : ph_H} (P : LR h g) (J : IT z g) (p s : Int32) : FX11_last p s h = (FX12_last p s g).1 := by
  obtain ⟨-, ⟨Q, q⟩, -⟩ := P
  have sb := steps_iv J
  have k1 : (1 : Int32).toInt = 1 := by decide
  have k0 : (0 : Int32).toInt = 0 := by decide
  unfold FX11_last FX12_last
  rw [Q]
  by_cases c : g 0 36 = 0
  · rw [if_pos c, if_pos c]
  · obtain ⟨q1, q2, q3, q4, q5, q6, q7, q8, q9, q10⟩ := q c
    rw [if_neg c, if_neg c]
    by_cases d : FX12_isIn s.toInt64 0 ((g 0 38).toInt64) = 0
    · rw [if_pos d, if_pos ((mom_eq q2).mpr d)]
    · rw [if_neg d, if_neg (fun w => d ((mom_eq q2).mp w))]
      obtain ⟨s0, s1⟩ := mom_in d
      have rows : ∀ k : Nat, 0 < k → (k : Int) ≤ s.toInt → h 40 k = g 33 k ∧ PLp (g 33 k) := fun k a b => ⟨(q9 k a (by omega)).2.2.2.2.1, (q9 k a (by omega)).2.2.2.2.2.2.2.2.2⟩
      have g00 : ∀ k, hs g 0 0 0 33 k = g 33 k := fun k => hs_o (by simp)
      rcases last_rf (p := p) (s := s) (by omega) 2000 0 1 (hs g 0 0 0) (by decide) (by omega) (by omega) with ⟨r, n⟩ | ⟨k, a0, a1, a2, a3, a4, a5⟩
      · rw [r]
        unfold FX10_lastWrite
        by_cases m : p = -2
        · rw [if_pos m]
        · rw [if_neg m]
          rcases last_in (h := h) (p := p) 2000 s s0 (by omega) (by omega) with ⟨r2, _⟩ | ⟨k, b0, b1, b2, b3, b4⟩
          · exact r2
          · obtain ⟨w1, w2⟩ := rows k b0 b1
            rw [w1] at b2
            have := n k (by omega) b1
            rw [g00] at this
            exact absurd b2 (fun e => this ⟨e, fun u => pl_no w2 u m e⟩)
      · rw [g00] at a2
        unfold FX10_lastWrite
        have m : ¬ p = -2 := fun e => a3 (by rw [e]; decide)
        rw [if_neg m]
        have w := rows k (by omega) a1
        rcases last_in (h := h) (p := p) 2000 s s0 (by omega) (by omega) with ⟨r2, n⟩ | ⟨k', b0, b1, b2, b3, b4⟩
        · exact absurd (w.1.trans a2) (n k (by omega) a1)
        · have e : k = k' := by
            rcases Nat.lt_trichotomy k k' with u | u | u
            · have := a5 k' u b1
              rw [g00] at this
              exact absurd ((rows k' b0 b1).1.symm.trans b2) this
            · exact u
            · exact absurd (w.1.trans a2) (b4 k u a1)
          apply tI
          rw [a4, b3, e]
end MG_48_x39B6
