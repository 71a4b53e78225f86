/-! what the reference does at an INSTRUCTION of each kind, written out -/
theorem and1_even (x : Int32) : (x &&& 1) = 0 ↔ (x - x / 2 * 2) = 0 := by
  have k2 : (2 : Int32).toInt = 2 := by decide
  have h0 : (0 : Int32).toInt = 0 := by decide
  obtain ⟨e1, e2⟩ := irem_ti (x := x) (n := 2) (m := 2) k2 (by decide) (by decide)
  have a : (x &&& 1) = 0 ↔ x.toBitVec.toNat % 2 = 0 := by
    rw [← Nat.and_one_is_mod]
    constructor
    · intro h
      have : (x &&& 1).toBitVec.toNat = 0 := by rw [h]; rfl
      rw [Int32.toBitVec_and, BitVec.toNat_and] at this
      exact this
    · intro h
      apply Int32.toBitVec_inj.1
      apply BitVec.eq_of_toNat_eq
      rw [Int32.toBitVec_and, BitVec.toNat_and]
      exact h
  have b : (x - x / 2 * 2) = 0 ↔ x.toInt.tmod 2 = 0 := by
    constructor
    · intro h
      rw [h] at e1
      omega
    · intro h
      apply tI
      rw [e1, e2, h, h0]
  rw [a, b]
  have hr1 : -2 < x.toInt.tmod 2 := Int.lt_tmod_of_pos x.toInt (by omega)
  have hr2 : x.toInt.tmod 2 < 2 := Int.tmod_lt_of_pos x.toInt (by omega)
  have c : x.toInt.tmod 2 = 0 ↔ x.toInt % 2 = 0 := by omega
  rw [c]
  have c : x.toInt = x.toBitVec.toInt := rfl
  rw [c, BitVec.toInt_eq_toNat_cond]
  have d := x.toBitVec.isLt
  split <;> omega
theorem rowp_iff {v s : Int32} (hs : iv 0 16 s) : FX12_isIn v.toInt64 0 ((s - 1).toInt64) = 0 ↔ ¬ (0 ≤ v.toInt ∧ v.toInt < s.toInt) := by
  have k0 : (0 : Int64).toInt = 0 := by decide
  have k1 : (1 : Int32).toInt = 1 := by decide
  unfold iv at hs
  have e : (s - 1).toInt = s.toInt - 1 := by rw [ti_sub (by omega) (by omega), k1]
  constructor
  · intro h
    have := isIn_f h
    rw [Int64.le_iff_toInt_le, Int64.le_iff_toInt_le, Int32.toInt_toInt64, Int32.toInt_toInt64, e, k0] at this
    omega
  · intro h
    apply Classical.byContradiction
    intro c
    have := isIn_t c
    rw [Int64.le_iff_toInt_le, Int64.le_iff_toInt_le, Int32.toInt_toInt64, Int32.toInt_toInt64, e, k0] at this
    omega
theorem nt29 : ∀ (q : Nat) (x3 x4 : Int32) (g : ph_H), iv 0 11 x3 → iv 0 16 x4 → 16 - x4.toInt < (q : Int) → ∃ g', FX12_newThing_29 q x3 x4 g = (x3, hs g' 0 18 (g 0 18 + 1)) ∧ (∀ p i, ¬ p = 19 → g' p i = g p i) ∧ (∀ j : Nat, x4.toInt ≤ j → j < 16 → g' 19 (16 * x3.toNatClampNeg + j) = 0) ∧ (∀ i : Nat, (i : Int) < 16 * x3.toInt + x4.toInt → g' 19 i = g 19 i)
  | 0, x3, x4, g, f3, f4, m => by unfold iv at f4; omega
  | q + 1, x3, x4, g, f3, f4, m => by
    have k1 : (1 : Int32).toInt = 1 := by decide
    have k16 : (16 : Int32).toInt = 16 := by decide
    have n3 := iv_nat f3 rfl
    unfold iv at f3 f4
    unfold FX12_newThing_29
    by_cases c : 16 ≤ x4
    · rw [if_pos c]
      rw [Int32.le_iff_toInt_le, k16] at c
      exact ⟨g, rfl, fun _ _ _ => rfl, fun j a b => by omega, fun _ _ => rfl⟩
    · rw [if_neg c]
      rw [Int32.le_iff_toInt_le, k16] at c
      have e4 : (x4 + 1).toInt = x4.toInt + 1 := by rw [ti_add (by omega) (by omega), k1]
      have em : (16 * x3).toInt = 16 * x3.toInt := by rw [ti_mul (by rw [k16]; omega) (by rw [k16]; omega), k16]
      have ea : (16 * x3 + x4).toInt = 16 * x3.toInt + x4.toInt := by rw [ti_add (by omega) (by omega), em]
      have ix : ((16 * x3 + x4).toNatClampNeg : Int) = 16 * x3.toInt + x4.toInt := by
        rw [← Int32.toNat_toInt]
        omega
      obtain ⟨g', a1, a2, a3, a4⟩ := nt29 q x3 (x4 + 1) (hs g 19 (16 * x3 + x4).toNatClampNeg 0) f3 (by unfold iv; omega) (by omega)
      refine ⟨g', ?_, fun p i hp => ?_, fun j hj hk => ?_, fun i hi => ?_⟩
      · rw [a1, hs_o (by simp)]
      · rw [a2 p i hp, hs_o (fun w => hp w.1)]
      · by_cases d : (j : Int) = x4.toInt
        · rw [a4 _ (by omega), hs_get, if_pos rfl, if_pos (by omega)]
        · exact a3 j (by omega) hk
      · rw [a4 i (by omega), hs_o (fun w => by omega)]
/-- a new THING of the reference -/
theorem nt_eq {z : zT} {k n : Int32} {g : ph_H} (I : IM z g) (hl : (g 0 18).toInt < 12) : ∃ g', FX12_newThing k n g = (g 0 18, hs (hs (hs (hs g' 16 (g 0 18).toNatClampNeg k) 17 (g 0 18).toNatClampNeg (-1)) 18 (g 0 18).toNatClampNeg n) 0 18 (g 0 18 + 1)) ∧ (∀ p i, ¬ p = 19 → g' p i = g p i) ∧ (∀ j : Nat, j < 16 → g' 19 (16 * (g 0 18).toNatClampNeg + j) = 0) ∧ (∀ i : Nat, (i : Int) < 16 * (g 0 18).toInt → g' 19 i = g 19 i) := by
  have tn := th_nn I
  have k0 : (0 : Int32).toInt = 0 := by decide
  unfold FX12_newThing
  obtain ⟨g', a1, a2, a3, a4⟩ := nt29 2000 (g 0 18) 0 (hs (hs (hs g 16 (g 0 18).toNatClampNeg k) 17 (g 0 18).toNatClampNeg (-1)) 18 (g 0 18).toNatClampNeg n) ⟨tn.1, by omega⟩ ⟨by decide, by decide⟩ (by omega)
  refine ⟨fun p i => if p = 19 then g' 19 i else g p i, ?_, fun p i hp => if_neg hp, fun j hj => ?_, fun i hi => ?_⟩
  · rw [a1]
    apply Prod.ext
    · rfl
    · apply hs_ext
      intro p i
      show hs g' 0 18 _ p i = hs _ 0 18 _ p i
      by_cases e : p = 19
      · subst e
        simp [hs_get]
      · have := a2 p i e
        simp only [hs_get] at this ⊢
        rw [this]
        simp [e]
  · simp only [if_true]
    exact a3 j (by omega) hj
  · simp only [if_true]
    rw [a4 i (by omega)]
    simp [hs_get]
theorem nt_1 {z : zT} {k n : Int32} {g : ph_H} (I : IM z g) (hl : (g 0 18).toInt < 12) : (FX12_newThing k n g).1 = g 0 18 := by
  obtain ⟨g', a, b⟩ := nt_eq (k := k) (n := n) I hl
  rw [a]
theorem nt_o {z : zT} {k n : Int32} {g : ph_H} (I : IM z g) (hl : (g 0 18).toInt < 12) {p i : Nat} (h0 : ¬ p = 0) (h1 : ¬ p = 16) (h2 : ¬ p = 17) (h3 : ¬ p = 18) (h4 : ¬ p = 19) : (FX12_newThing k n g).2 p i = g p i := by
  obtain ⟨g', a, b, c⟩ := nt_eq (k := k) (n := n) I hl
  rw [a]
  simp [hs_get, h0, h1, h2, h3, b p i h4]
section
variable {z : zT} {g : ph_H} {t i : Int32}
theorem ins_0 (o : g 2 i.toNatClampNeg = 0) : FX12_instruct t i g = FX12_goTo t ((g 12 (Int32.toNatClampNeg t) + 1)) (hs (hs (hs g 0 25 0) 10 (Int32.toNatClampNeg (FX12_local t (g 3 (Int32.toNatClampNeg i)) g)) 0) 11 (Int32.toNatClampNeg (FX12_local t (g 3 (Int32.toNatClampNeg i)) g)) (g 4 i.toNatClampNeg)) := by
  unfold FX12_instruct FX12_instruct_98 FX12_instruct_102 FX12_instruct_144 FX12_instruct_148 FX12_instruct_149 FX12_instruct_177 FX12_instruct_195 FX12_instruct_204 FX12_instruct_251 FX12_why FX12_work FX12_workPlain FX12_why_99 FX12_why_169 FX12_why_196 FX12_why_266 FX12_work_88 FX12_work_111 FX12_work_134 FX12_work_152 FX12_work_155 FX12_work_212 FX12_workPlain_116 FX12_workPlain_153 FX12_workPlain_191 FX12_workPlain_206 FX12_workPlain_219 FX12_workPlain_222 FX12_workPlain_256 FX12_workPlain_259 FX12_set
  simp (decide := true) only [o, hs_get, ↓reduceIte, hs_hs]
theorem ins_1 (o : g 2 i.toNatClampNeg = 1) : FX12_instruct t i g = FX12_goTo t ((g 12 (Int32.toNatClampNeg t) + 1)) (hs (hs (hs (hs g 0 25 0) 0 29 (FX12_modulo (g 4 i.toNatClampNeg) 12)) 10 (Int32.toNatClampNeg (FX12_local t (g 3 (Int32.toNatClampNeg i)) g)) (g 10 (FX12_modulo (g 4 i.toNatClampNeg) 12).toNatClampNeg)) 11 (Int32.toNatClampNeg (FX12_local t (g 3 (Int32.toNatClampNeg i)) g)) (g 11 (FX12_modulo (g 4 i.toNatClampNeg) 12).toNatClampNeg)) := by
  unfold FX12_instruct FX12_instruct_98 FX12_instruct_102 FX12_instruct_144 FX12_instruct_148 FX12_instruct_149 FX12_instruct_177 FX12_instruct_195 FX12_instruct_204 FX12_instruct_251 FX12_why FX12_work FX12_workPlain FX12_why_99 FX12_why_169 FX12_why_196 FX12_why_266 FX12_work_88 FX12_work_111 FX12_work_134 FX12_work_152 FX12_work_155 FX12_work_212 FX12_workPlain_116 FX12_workPlain_153 FX12_workPlain_191 FX12_workPlain_206 FX12_workPlain_219 FX12_workPlain_222 FX12_workPlain_256 FX12_workPlain_259 FX12_set
  simp (decide := true) only [o, hs_get, ↓reduceIte, hs_hs]
theorem ins_2 (o : g 2 i.toNatClampNeg = 2) : FX12_instruct t i g = FX12_goTo t ((g 12 (Int32.toNatClampNeg t) + 1)) (hs (hs (hs (hs g 0 25 0) 0 30 (FX12_modulo (g 3 i.toNatClampNeg) 12)) 10 (FX12_modulo (g 3 i.toNatClampNeg) 12).toNatClampNeg (g 10 (Int32.toNatClampNeg (FX12_local t (g 4 (Int32.toNatClampNeg i)) g)))) 11 (FX12_modulo (g 3 i.toNatClampNeg) 12).toNatClampNeg (g 11 (Int32.toNatClampNeg (FX12_local t (g 4 (Int32.toNatClampNeg i)) g)))) := by
  unfold FX12_instruct FX12_instruct_98 FX12_instruct_102 FX12_instruct_144 FX12_instruct_148 FX12_instruct_149 FX12_instruct_177 FX12_instruct_195 FX12_instruct_204 FX12_instruct_251 FX12_why FX12_work FX12_workPlain FX12_why_99 FX12_why_169 FX12_why_196 FX12_why_266 FX12_work_88 FX12_work_111 FX12_work_134 FX12_work_152 FX12_work_155 FX12_work_212 FX12_workPlain_116 FX12_workPlain_153 FX12_workPlain_191 FX12_workPlain_206 FX12_workPlain_219 FX12_workPlain_222 FX12_workPlain_256 FX12_workPlain_259 FX12_set
  simp (decide := true) only [o, hs_get, ↓reduceIte, hs_hs]
theorem ins_3 (o : g 2 i.toNatClampNeg = 3) (c1 : g 10 (Int32.toNatClampNeg (FX12_local t (g 3 (Int32.toNatClampNeg i)) g)) = 0) (c2 : g 10 (Int32.toNatClampNeg (FX12_local t (g 4 (Int32.toNatClampNeg i)) g)) = 0) : FX12_instruct t i g = FX12_goTo t ((g 12 (Int32.toNatClampNeg t) + 1)) (hs (hs (hs g 0 25 0) 10 (Int32.toNatClampNeg (FX12_local t (g 3 (Int32.toNatClampNeg i)) g)) 0) 11 (Int32.toNatClampNeg (FX12_local t (g 3 (Int32.toNatClampNeg i)) g)) (g 11 (Int32.toNatClampNeg (FX12_local t (g 3 (Int32.toNatClampNeg i)) g)) + g 11 (Int32.toNatClampNeg (FX12_local t (g 4 (Int32.toNatClampNeg i)) g)))) := by
  unfold FX12_instruct FX12_instruct_98 FX12_instruct_102 FX12_instruct_144 FX12_instruct_148 FX12_instruct_149 FX12_instruct_177 FX12_instruct_195 FX12_instruct_204 FX12_instruct_251 FX12_why FX12_work FX12_workPlain FX12_why_99 FX12_why_169 FX12_why_196 FX12_why_266 FX12_work_88 FX12_work_111 FX12_work_134 FX12_work_152 FX12_work_155 FX12_work_212 FX12_workPlain_116 FX12_workPlain_153 FX12_workPlain_191 FX12_workPlain_206 FX12_workPlain_219 FX12_workPlain_222 FX12_workPlain_256 FX12_workPlain_259 FX12_set
  simp (decide := true) only [o, c1, c2, hs_get, ↓reduceIte, hs_hs]
theorem ins_4 (o : g 2 i.toNatClampNeg = 4) (c1 : g 10 (Int32.toNatClampNeg (FX12_local t (g 3 (Int32.toNatClampNeg i)) g)) = 0) (c2 : g 10 (Int32.toNatClampNeg (FX12_local t (g 4 (Int32.toNatClampNeg i)) g)) = 0) : FX12_instruct t i g = FX12_goTo t ((g 12 (Int32.toNatClampNeg t) + 1)) (hs (hs (hs g 0 25 0) 10 (Int32.toNatClampNeg (FX12_local t (g 3 (Int32.toNatClampNeg i)) g)) 0) 11 (Int32.toNatClampNeg (FX12_local t (g 3 (Int32.toNatClampNeg i)) g)) (g 11 (Int32.toNatClampNeg (FX12_local t (g 3 (Int32.toNatClampNeg i)) g)) - g 11 (Int32.toNatClampNeg (FX12_local t (g 4 (Int32.toNatClampNeg i)) g)))) := by
  unfold FX12_instruct FX12_instruct_98 FX12_instruct_102 FX12_instruct_144 FX12_instruct_148 FX12_instruct_149 FX12_instruct_177 FX12_instruct_195 FX12_instruct_204 FX12_instruct_251 FX12_why FX12_work FX12_workPlain FX12_why_99 FX12_why_169 FX12_why_196 FX12_why_266 FX12_work_88 FX12_work_111 FX12_work_134 FX12_work_152 FX12_work_155 FX12_work_212 FX12_workPlain_116 FX12_workPlain_153 FX12_workPlain_191 FX12_workPlain_206 FX12_workPlain_219 FX12_workPlain_222 FX12_workPlain_256 FX12_workPlain_259 FX12_set
  simp (decide := true) only [o, c1, c2, hs_get, ↓reduceIte, hs_hs]
theorem ins_5 (o : g 2 i.toNatClampNeg = 5) (c1 : g 10 (Int32.toNatClampNeg (FX12_local t (g 3 (Int32.toNatClampNeg i)) g)) = 0) (c2 : g 10 (Int32.toNatClampNeg (FX12_local t (g 4 (Int32.toNatClampNeg i)) g)) = 0) : FX12_instruct t i g = FX12_goTo t ((g 12 (Int32.toNatClampNeg t) + 1)) (hs (hs (hs g 0 25 0) 10 (Int32.toNatClampNeg (FX12_local t (g 3 (Int32.toNatClampNeg i)) g)) 0) 11 (Int32.toNatClampNeg (FX12_local t (g 3 (Int32.toNatClampNeg i)) g)) (g 11 (Int32.toNatClampNeg (FX12_local t (g 3 (Int32.toNatClampNeg i)) g)) * g 11 (Int32.toNatClampNeg (FX12_local t (g 4 (Int32.toNatClampNeg i)) g)))) := by
  unfold FX12_instruct FX12_instruct_98 FX12_instruct_102 FX12_instruct_144 FX12_instruct_148 FX12_instruct_149 FX12_instruct_177 FX12_instruct_195 FX12_instruct_204 FX12_instruct_251 FX12_why FX12_work FX12_workPlain FX12_why_99 FX12_why_169 FX12_why_196 FX12_why_266 FX12_work_88 FX12_work_111 FX12_work_134 FX12_work_152 FX12_work_155 FX12_work_212 FX12_workPlain_116 FX12_workPlain_153 FX12_workPlain_191 FX12_workPlain_206 FX12_workPlain_219 FX12_workPlain_222 FX12_workPlain_256 FX12_workPlain_259 FX12_set
  simp (decide := true) only [o, c1, c2, hs_get, ↓reduceIte, hs_hs]
theorem ins_6 (o : g 2 i.toNatClampNeg = 6) : FX12_instruct t i g = FX12_goTo t (g 3 i.toNatClampNeg) (hs g 0 25 0) := by
  unfold FX12_instruct FX12_instruct_98 FX12_instruct_102 FX12_instruct_144 FX12_instruct_148 FX12_instruct_149 FX12_instruct_177 FX12_instruct_195 FX12_instruct_204 FX12_instruct_251 FX12_why FX12_work FX12_workPlain FX12_why_99 FX12_why_169 FX12_why_196 FX12_why_266 FX12_work_88 FX12_work_111 FX12_work_134 FX12_work_152 FX12_work_155 FX12_work_212 FX12_workPlain_116 FX12_workPlain_153 FX12_workPlain_191 FX12_workPlain_206 FX12_workPlain_219 FX12_workPlain_222 FX12_workPlain_256 FX12_workPlain_259 FX12_set
  simp (decide := true) only [o, hs_get, ↓reduceIte, hs_hs]
theorem ins_7j (o : g 2 i.toNatClampNeg = 7) (c1 : g 10 (Int32.toNatClampNeg (FX12_local t (g 3 (Int32.toNatClampNeg i)) g)) = 0) (c2 : g 11 (Int32.toNatClampNeg (FX12_local t (g 3 (Int32.toNatClampNeg i)) g)) = 0) : FX12_instruct t i g = FX12_goTo t (g 4 i.toNatClampNeg) (hs g 0 25 0) := by
  unfold FX12_instruct FX12_instruct_98 FX12_instruct_102 FX12_instruct_144 FX12_instruct_148 FX12_instruct_149 FX12_instruct_177 FX12_instruct_195 FX12_instruct_204 FX12_instruct_251 FX12_why FX12_work FX12_workPlain FX12_why_99 FX12_why_169 FX12_why_196 FX12_why_266 FX12_work_88 FX12_work_111 FX12_work_134 FX12_work_152 FX12_work_155 FX12_work_212 FX12_workPlain_116 FX12_workPlain_153 FX12_workPlain_191 FX12_workPlain_206 FX12_workPlain_219 FX12_workPlain_222 FX12_workPlain_256 FX12_workPlain_259 FX12_set
  simp (decide := true) only [o, c1, c2, hs_get, ↓reduceIte, hs_hs]
theorem ins_7n (o : g 2 i.toNatClampNeg = 7) (c1 : g 10 (Int32.toNatClampNeg (FX12_local t (g 3 (Int32.toNatClampNeg i)) g)) = 0) (c2 : ¬ g 11 (Int32.toNatClampNeg (FX12_local t (g 3 (Int32.toNatClampNeg i)) g)) = 0) : FX12_instruct t i g = FX12_goTo t ((g 12 (Int32.toNatClampNeg t) + 1)) (hs g 0 25 0) := by
  unfold FX12_instruct FX12_instruct_98 FX12_instruct_102 FX12_instruct_144 FX12_instruct_148 FX12_instruct_149 FX12_instruct_177 FX12_instruct_195 FX12_instruct_204 FX12_instruct_251 FX12_why FX12_work FX12_workPlain FX12_why_99 FX12_why_169 FX12_why_196 FX12_why_266 FX12_work_88 FX12_work_111 FX12_work_134 FX12_work_152 FX12_work_155 FX12_work_212 FX12_workPlain_116 FX12_workPlain_153 FX12_workPlain_191 FX12_workPlain_206 FX12_workPlain_219 FX12_workPlain_222 FX12_workPlain_256 FX12_workPlain_259 FX12_set
  simp (decide := true) only [o, c1, c2, hs_get, ↓reduceIte, hs_hs]
theorem ins_9 (o : g 2 i.toNatClampNeg = 9) (c1 : g 10 (Int32.toNatClampNeg (FX12_local t (g 4 (Int32.toNatClampNeg i)) g)) = 1) (c2 : g 10 (Int32.toNatClampNeg (FX12_local t (g 5 (Int32.toNatClampNeg i)) g)) = 0) (c3 : ¬ FX12_isIn (g 11 (Int32.toNatClampNeg (FX12_local t (g 5 (Int32.toNatClampNeg i)) g))).toInt64 0 ((g 18 (g 11 (Int32.toNatClampNeg (FX12_local t (g 4 (Int32.toNatClampNeg i)) g))).toNatClampNeg) - 1).toInt64 = 0) : FX12_instruct t i g = FX12_goTo t ((g 12 (Int32.toNatClampNeg t) + 1)) (hs (hs (hs (hs g 0 25 0) 0 29 ((100 + (20 * (g 11 (Int32.toNatClampNeg (FX12_local t (g 4 (Int32.toNatClampNeg i)) g))))) + (g 11 (Int32.toNatClampNeg (FX12_local t (g 5 (Int32.toNatClampNeg i)) g))))) 10 (Int32.toNatClampNeg (FX12_local t (g 3 (Int32.toNatClampNeg i)) g)) 0) 11 (Int32.toNatClampNeg (FX12_local t (g 3 (Int32.toNatClampNeg i)) g)) (g 19 ((16 * (g 11 (Int32.toNatClampNeg (FX12_local t (g 4 (Int32.toNatClampNeg i)) g)))) + (g 11 (Int32.toNatClampNeg (FX12_local t (g 5 (Int32.toNatClampNeg i)) g)))).toNatClampNeg)) := by
  unfold FX12_instruct FX12_instruct_98 FX12_instruct_102 FX12_instruct_144 FX12_instruct_148 FX12_instruct_149 FX12_instruct_177 FX12_instruct_195 FX12_instruct_204 FX12_instruct_251 FX12_why FX12_work FX12_workPlain FX12_why_99 FX12_why_169 FX12_why_196 FX12_why_266 FX12_work_88 FX12_work_111 FX12_work_134 FX12_work_152 FX12_work_155 FX12_work_212 FX12_workPlain_116 FX12_workPlain_153 FX12_workPlain_191 FX12_workPlain_206 FX12_workPlain_219 FX12_workPlain_222 FX12_workPlain_256 FX12_workPlain_259 FX12_set
  simp (decide := true) only [o, c1, c2, c3, hs_get, ↓reduceIte, hs_hs]
theorem ins_10 (o : g 2 i.toNatClampNeg = 10) (c1 : g 10 (Int32.toNatClampNeg (FX12_local t (g 3 (Int32.toNatClampNeg i)) g)) = 1) (c2 : g 10 (Int32.toNatClampNeg (FX12_local t (g 4 (Int32.toNatClampNeg i)) g)) = 0) (c3 : g 10 (Int32.toNatClampNeg (FX12_local t (g 5 (Int32.toNatClampNeg i)) g)) = 0) (c4 : ¬ FX12_isIn (g 11 (Int32.toNatClampNeg (FX12_local t (g 4 (Int32.toNatClampNeg i)) g))).toInt64 0 ((g 18 (g 11 (Int32.toNatClampNeg (FX12_local t (g 3 (Int32.toNatClampNeg i)) g))).toNatClampNeg) - 1).toInt64 = 0) : FX12_instruct t i g = FX12_goTo t ((g 12 (Int32.toNatClampNeg t) + 1)) (hs (hs (hs g 0 25 0) 0 30 ((100 + (20 * (g 11 (Int32.toNatClampNeg (FX12_local t (g 3 (Int32.toNatClampNeg i)) g))))) + (g 11 (Int32.toNatClampNeg (FX12_local t (g 4 (Int32.toNatClampNeg i)) g))))) 19 ((16 * (g 11 (Int32.toNatClampNeg (FX12_local t (g 3 (Int32.toNatClampNeg i)) g)))) + (g 11 (Int32.toNatClampNeg (FX12_local t (g 4 (Int32.toNatClampNeg i)) g)))).toNatClampNeg (g 11 (Int32.toNatClampNeg (FX12_local t (g 5 (Int32.toNatClampNeg i)) g)))) := by
  unfold FX12_instruct FX12_instruct_98 FX12_instruct_102 FX12_instruct_144 FX12_instruct_148 FX12_instruct_149 FX12_instruct_177 FX12_instruct_195 FX12_instruct_204 FX12_instruct_251 FX12_why FX12_work FX12_workPlain FX12_why_99 FX12_why_169 FX12_why_196 FX12_why_266 FX12_work_88 FX12_work_111 FX12_work_134 FX12_work_152 FX12_work_155 FX12_work_212 FX12_workPlain_116 FX12_workPlain_153 FX12_workPlain_191 FX12_workPlain_206 FX12_workPlain_219 FX12_workPlain_222 FX12_workPlain_256 FX12_workPlain_259 FX12_set
  simp (decide := true) only [o, c1, c2, c3, c4, hs_get, ↓reduceIte, hs_hs]
theorem isLock_hs {x : Int32} {g : ph_H} {v : Int32} {j : Nat} : FX12_isLock x (hs g 0 j v) = FX12_isLock x g := by
  unfold FX12_isLock FX12_isLock_20
  simp (decide := true) only [hs_get, ↓reduceIte]
theorem ins_12 (o : g 2 i.toNatClampNeg = 12) (c1 : ¬ FX12_isLock (FX12_local t (g 3 (Int32.toNatClampNeg i)) g) g = 0) (c2 : ¬ g 17 (g 11 (Int32.toNatClampNeg (FX12_local t (g 3 (Int32.toNatClampNeg i)) g))).toNatClampNeg = t) : FX12_instruct t i g = FX12_goTo t ((g 12 (Int32.toNatClampNeg t) + 1)) (hs (hs (hs (hs g 0 25 0) 17 (g 11 (Int32.toNatClampNeg (FX12_local t (g 3 (Int32.toNatClampNeg i)) g))).toNatClampNeg t) 0 31 1) 0 32 (g 11 (Int32.toNatClampNeg (FX12_local t (g 3 (Int32.toNatClampNeg i)) g)))) := by
  unfold FX12_instruct FX12_instruct_98 FX12_instruct_102 FX12_instruct_144 FX12_instruct_148 FX12_instruct_149 FX12_instruct_177 FX12_instruct_195 FX12_instruct_204 FX12_instruct_251 FX12_why FX12_work FX12_workPlain FX12_why_99 FX12_why_169 FX12_why_196 FX12_why_266 FX12_work_88 FX12_work_111 FX12_work_134 FX12_work_152 FX12_work_155 FX12_work_212 FX12_workPlain_116 FX12_workPlain_153 FX12_workPlain_191 FX12_workPlain_206 FX12_workPlain_219 FX12_workPlain_222 FX12_workPlain_256 FX12_workPlain_259 FX12_set
  simp (decide := true) only [o, c1, c2, hs_get, ↓reduceIte, hs_hs]
theorem ins_13 (o : g 2 i.toNatClampNeg = 13) (c1 : ¬ FX12_isLock (FX12_local t (g 3 (Int32.toNatClampNeg i)) g) g = 0) (c2 : g 17 (g 11 (Int32.toNatClampNeg (FX12_local t (g 3 (Int32.toNatClampNeg i)) g))).toNatClampNeg = t) : FX12_instruct t i g = FX12_goTo t ((g 12 (Int32.toNatClampNeg t) + 1)) (hs (hs (hs (hs g 0 25 0) 17 (g 11 (Int32.toNatClampNeg (FX12_local t (g 3 (Int32.toNatClampNeg i)) g))).toNatClampNeg (-1)) 0 31 2) 0 32 (g 11 (Int32.toNatClampNeg (FX12_local t (g 3 (Int32.toNatClampNeg i)) g)))) := by
  unfold FX12_instruct FX12_instruct_98 FX12_instruct_102 FX12_instruct_144 FX12_instruct_148 FX12_instruct_149 FX12_instruct_177 FX12_instruct_195 FX12_instruct_204 FX12_instruct_251 FX12_why FX12_work FX12_workPlain FX12_why_99 FX12_why_169 FX12_why_196 FX12_why_266 FX12_work_88 FX12_work_111 FX12_work_134 FX12_work_152 FX12_work_155 FX12_work_212 FX12_workPlain_116 FX12_workPlain_153 FX12_workPlain_191 FX12_workPlain_206 FX12_workPlain_219 FX12_workPlain_222 FX12_workPlain_256 FX12_workPlain_259 FX12_set
  simp (decide := true) only [o, c1, c2, hs_get, ↓reduceIte, hs_hs]
theorem ins_14 (o : g 2 i.toNatClampNeg = 14) (c1 : g 10 (Int32.toNatClampNeg (FX12_local t (g 3 (Int32.toNatClampNeg i)) g)) = 3) (c2 : g 17 (g 11 (Int32.toNatClampNeg (FX12_local t (g 3 (Int32.toNatClampNeg i)) g))).toNatClampNeg = t) : FX12_instruct t i g = hs (hs (hs (hs (hs g 0 25 0) 17 (g 11 (Int32.toNatClampNeg (FX12_local t (g 3 (Int32.toNatClampNeg i)) g))).toNatClampNeg (-1)) 14 t.toNatClampNeg (g 11 (Int32.toNatClampNeg (FX12_local t (g 3 (Int32.toNatClampNeg i)) g)))) 0 31 2) 0 32 (g 11 (Int32.toNatClampNeg (FX12_local t (g 3 (Int32.toNatClampNeg i)) g))) := by
  unfold FX12_instruct FX12_instruct_98 FX12_instruct_102 FX12_instruct_144 FX12_instruct_148 FX12_instruct_149 FX12_instruct_177 FX12_instruct_195 FX12_instruct_204 FX12_instruct_251 FX12_why FX12_work FX12_workPlain FX12_why_99 FX12_why_169 FX12_why_196 FX12_why_266 FX12_work_88 FX12_work_111 FX12_work_134 FX12_work_152 FX12_work_155 FX12_work_212 FX12_workPlain_116 FX12_workPlain_153 FX12_workPlain_191 FX12_workPlain_206 FX12_workPlain_219 FX12_workPlain_222 FX12_workPlain_256 FX12_workPlain_259 FX12_set
  simp (decide := true) only [o, c1, c2, hs_get, ↓reduceIte, hs_hs]
theorem ins_16k (o : g 2 i.toNatClampNeg = 16) (c1 : ¬ g 0 33 = 0) : FX12_instruct t i g = FX12_goTo t ((g 12 (Int32.toNatClampNeg t) + 1)) (hs (hs (hs (hs g 0 25 0) 10 (Int32.toNatClampNeg (FX12_local t (g 3 (Int32.toNatClampNeg i)) g)) 0) 11 (Int32.toNatClampNeg (FX12_local t (g 3 (Int32.toNatClampNeg i)) g)) (g 36 (g 0 23).toNatClampNeg)) 0 23 (g 0 23 + 1)) := by
  unfold FX12_instruct FX12_instruct_98 FX12_instruct_102 FX12_instruct_144 FX12_instruct_148 FX12_instruct_149 FX12_instruct_177 FX12_instruct_195 FX12_instruct_204 FX12_instruct_251 FX12_why FX12_work FX12_workPlain FX12_why_99 FX12_why_169 FX12_why_196 FX12_why_266 FX12_work_88 FX12_work_111 FX12_work_134 FX12_work_152 FX12_work_155 FX12_work_212 FX12_workPlain_116 FX12_workPlain_153 FX12_workPlain_191 FX12_workPlain_206 FX12_workPlain_219 FX12_workPlain_222 FX12_workPlain_256 FX12_workPlain_259 FX12_set
  simp (decide := true) only [o, c1, hs_get, ↓reduceIte, hs_hs]
theorem ins_16u (o : g 2 i.toNatClampNeg = 16) (c1 : g 0 33 = 0) (c2 : ¬ g 0 23 = g 0 7) : FX12_instruct t i g = FX12_goTo t ((g 12 (Int32.toNatClampNeg t) + 1)) (hs (hs (hs (hs g 0 25 0) 10 (Int32.toNatClampNeg (FX12_local t (g 3 (Int32.toNatClampNeg i)) g)) 0) 11 (Int32.toNatClampNeg (FX12_local t (g 3 (Int32.toNatClampNeg i)) g)) (g 7 (g 0 23).toNatClampNeg)) 0 23 (g 0 23 + 1)) := by
  unfold FX12_instruct FX12_instruct_98 FX12_instruct_102 FX12_instruct_144 FX12_instruct_148 FX12_instruct_149 FX12_instruct_177 FX12_instruct_195 FX12_instruct_204 FX12_instruct_251 FX12_why FX12_work FX12_workPlain FX12_why_99 FX12_why_169 FX12_why_196 FX12_why_266 FX12_work_88 FX12_work_111 FX12_work_134 FX12_work_152 FX12_work_155 FX12_work_212 FX12_workPlain_116 FX12_workPlain_153 FX12_workPlain_191 FX12_workPlain_206 FX12_workPlain_219 FX12_workPlain_222 FX12_workPlain_256 FX12_workPlain_259 FX12_set
  simp (decide := true) only [o, c1, c2, hs_get, ↓reduceIte, hs_hs]
theorem ins_17 (o : g 2 i.toNatClampNeg = 17) (c1 : g 13 (FX12_modulo (g 3 i.toNatClampNeg) 4).toNatClampNeg = 0) : FX12_instruct t i g = FX12_goTo t ((g 12 (Int32.toNatClampNeg t) + 1)) (hs (hs (hs (hs g 0 25 0) 13 (FX12_modulo (g 3 i.toNatClampNeg) 4).toNatClampNeg 1) 0 31 4) 0 32 (FX12_modulo (g 3 i.toNatClampNeg) 4)) := by
  have e : vp_nar .boolean 1 = 1 := rfl
  unfold FX12_instruct FX12_instruct_98 FX12_instruct_102 FX12_instruct_144 FX12_instruct_148 FX12_instruct_149 FX12_instruct_177 FX12_instruct_195 FX12_instruct_204 FX12_instruct_251 FX12_why FX12_work FX12_workPlain FX12_why_99 FX12_why_169 FX12_why_196 FX12_why_266 FX12_work_88 FX12_work_111 FX12_work_134 FX12_work_152 FX12_work_155 FX12_work_212 FX12_workPlain_116 FX12_workPlain_153 FX12_workPlain_191 FX12_workPlain_206 FX12_workPlain_219 FX12_workPlain_222 FX12_workPlain_256 FX12_workPlain_259 FX12_set
  simp (decide := true) only [o, c1, hs_get, ↓reduceIte, hs_hs, e]
theorem ins_17f (o : g 2 i.toNatClampNeg = 17) (c1 : ¬ g 13 (FX12_modulo (g 3 i.toNatClampNeg) 4).toNatClampNeg = 0) : FX12_instruct t i g = hs g 0 25 5 := by
  unfold FX12_instruct FX12_instruct_98 FX12_instruct_102 FX12_instruct_144 FX12_instruct_148 FX12_instruct_149 FX12_instruct_177 FX12_instruct_195 FX12_instruct_204 FX12_instruct_251 FX12_why FX12_work FX12_workPlain FX12_why_99 FX12_why_169 FX12_why_196 FX12_why_266 FX12_work_88 FX12_work_111 FX12_work_134 FX12_work_152 FX12_work_155 FX12_work_212 FX12_workPlain_116 FX12_workPlain_153 FX12_workPlain_191 FX12_workPlain_206 FX12_workPlain_219 FX12_workPlain_222 FX12_workPlain_256 FX12_workPlain_259 FX12_set
  simp (decide := true) only [o, c1, hs_get, ↓reduceIte, hs_hs]
theorem ins_19 (o : g 2 i.toNatClampNeg = 19) : FX12_instruct t i g = FX12_goTo t 24 (hs g 0 25 0) := by
  unfold FX12_instruct FX12_instruct_98 FX12_instruct_102 FX12_instruct_144 FX12_instruct_148 FX12_instruct_149 FX12_instruct_177 FX12_instruct_195 FX12_instruct_204 FX12_instruct_251 FX12_why FX12_work FX12_workPlain FX12_why_99 FX12_why_169 FX12_why_196 FX12_why_266 FX12_work_88 FX12_work_111 FX12_work_134 FX12_work_152 FX12_work_155 FX12_work_212 FX12_workPlain_116 FX12_workPlain_153 FX12_workPlain_191 FX12_workPlain_206 FX12_workPlain_219 FX12_workPlain_222 FX12_workPlain_256 FX12_workPlain_259 FX12_set
  simp (decide := true) only [o, hs_get, ↓reduceIte, hs_hs]
theorem ins_8 (I : IM z g) (hl : (g 0 18).toInt < 12) (o : g 2 i.toNatClampNeg = 8) (c1 : g 10 (Int32.toNatClampNeg (FX12_local t (g 4 (Int32.toNatClampNeg i)) g)) = 0) (c2 : 0 ≤ g 11 (Int32.toNatClampNeg (FX12_local t (g 4 (Int32.toNatClampNeg i)) g))) (c3 : ¬ 16 < g 11 (Int32.toNatClampNeg (FX12_local t (g 4 (Int32.toNatClampNeg i)) g))) (c4 : ¬ g 0 18 = 12) : FX12_instruct t i g = FX12_goTo t ((g 12 (Int32.toNatClampNeg t) + 1)) (hs (hs (FX12_newThing 1 (g 11 (Int32.toNatClampNeg (FX12_local t (g 4 (Int32.toNatClampNeg i)) g))) (hs g 0 25 0)).2 10 (Int32.toNatClampNeg (FX12_local t (g 3 (Int32.toNatClampNeg i)) g)) 1) 11 (Int32.toNatClampNeg (FX12_local t (g 3 (Int32.toNatClampNeg i)) g)) (g 0 18)) := by
  have I1 : IM z (hs g 0 25 0) := IMs I (iv_any _) rfl
  have hl1 : (hs g 0 25 0 0 18).toInt < 12 := by rw [hs_o (by simp)]; exact hl
  have n1 := nt_1 (k := 1) (n := g 11 (Int32.toNatClampNeg (FX12_local t (g 4 (Int32.toNatClampNeg i)) g))) I1 hl1
  rw [hs_o (by simp)] at n1
  have n2 : ∀ j, (FX12_newThing 1 (g 11 (Int32.toNatClampNeg (FX12_local t (g 4 (Int32.toNatClampNeg i)) g))) (hs g 0 25 0)).2 2 j = g 2 j := fun j => by rw [nt_o I1 hl1 (by decide) (by decide) (by decide) (by decide) (by decide), hs_o (by simp)]
  have n12 : ∀ j, (FX12_newThing 1 (g 11 (Int32.toNatClampNeg (FX12_local t (g 4 (Int32.toNatClampNeg i)) g))) (hs g 0 25 0)).2 12 j = g 12 j := fun j => by rw [nt_o I1 hl1 (by decide) (by decide) (by decide) (by decide) (by decide), hs_o (by simp)]
  unfold FX12_instruct FX12_instruct_98 FX12_instruct_102 FX12_instruct_144 FX12_instruct_148 FX12_instruct_149 FX12_instruct_177 FX12_instruct_195 FX12_instruct_204 FX12_instruct_251 FX12_why FX12_work FX12_workPlain FX12_why_99 FX12_why_169 FX12_why_196 FX12_why_266 FX12_work_88 FX12_work_111 FX12_work_134 FX12_work_152 FX12_work_155 FX12_work_212 FX12_workPlain_116 FX12_workPlain_153 FX12_workPlain_191 FX12_workPlain_206 FX12_workPlain_219 FX12_workPlain_222 FX12_workPlain_256 FX12_workPlain_259 FX12_set
  simp (decide := true) only [o, c1, c2, c3, c4, hs_get, ↓reduceIte, hs_hs, n1, n2, n12]
theorem ins_11 {k : Int32} (I : IM z g) (hl : (g 0 18).toInt < 12) (o : g 2 i.toNatClampNeg = 11) (c4 : ¬ g 0 18 = 12) (hk : k = if (g 4 i.toNatClampNeg - g 4 i.toNatClampNeg / 2 * 2) = 0 then 2 else 3) : FX12_instruct t i g = FX12_goTo t ((g 12 (Int32.toNatClampNeg t) + 1)) (hs (hs (FX12_newThing k 0 (hs g 0 25 0)).2 10 (Int32.toNatClampNeg (FX12_local t (g 3 (Int32.toNatClampNeg i)) g)) k) 11 (Int32.toNatClampNeg (FX12_local t (g 3 (Int32.toNatClampNeg i)) g)) (g 0 18)) := by
  have I1 : IM z (hs g 0 25 0) := IMs I (iv_any _) rfl
  have hl1 : (hs g 0 25 0 0 18).toInt < 12 := by rw [hs_o (by simp)]; exact hl
  have n1 := nt_1 (k := k) (n := 0) I1 hl1
  rw [hs_o (by simp)] at n1
  have n2 : ∀ j, (FX12_newThing k 0 (hs g 0 25 0)).2 2 j = g 2 j := fun j => by rw [nt_o I1 hl1 (by decide) (by decide) (by decide) (by decide) (by decide), hs_o (by simp)]
  have n12 : ∀ j, (FX12_newThing k 0 (hs g 0 25 0)).2 12 j = g 12 j := fun j => by rw [nt_o I1 hl1 (by decide) (by decide) (by decide) (by decide) (by decide), hs_o (by simp)]
  unfold FX12_instruct FX12_instruct_98 FX12_instruct_102 FX12_instruct_144 FX12_instruct_148 FX12_instruct_149 FX12_instruct_177 FX12_instruct_195 FX12_instruct_204 FX12_instruct_251 FX12_why FX12_work FX12_workPlain FX12_why_99 FX12_why_169 FX12_why_196 FX12_why_266 FX12_work_88 FX12_work_111 FX12_work_134 FX12_work_152 FX12_work_155 FX12_work_212 FX12_workPlain_116 FX12_workPlain_153 FX12_workPlain_191 FX12_workPlain_206 FX12_workPlain_219 FX12_workPlain_222 FX12_workPlain_256 FX12_workPlain_259 FX12_set
  by_cases c : (g 4 i.toNatClampNeg - g 4 i.toNatClampNeg / 2 * 2) = 0
  · rw [if_pos c] at hk
    subst hk
    simp (decide := true) only [o, c, c4, hs_get, ↓reduceIte, hs_hs, n1, n2, n12]
  · rw [if_neg c] at hk
    subst hk
    simp (decide := true) only [o, c, c4, hs_get, ↓reduceIte, hs_hs, n1, n2, n12]
theorem w391_o : ∀ (q : Nat) (a x : Int32) (g : ph_H) (p j : Nat), ¬ p = 14 → ¬ p = 15 → FX12_work_391 q a x g p j = g p j
  | 0, _, _, _, _, _, _, _ => rfl
  | q + 1, a, x, g, p, j, n1, n2 => by
    unfold FX12_work_391 FX12_work_435
    split
    · rfl
    · split
      · rw [w391_o q _ _ _ _ _ n1 n2, hs_o (fun w => n1 w.1), hs_o (fun w => n2 w.1)]
      · rw [w391_o q _ _ _ _ _ n1 n2]
theorem ins_15 (o : g 2 i.toNatClampNeg = 15) (c1 : g 10 (Int32.toNatClampNeg (FX12_local t (g 3 (Int32.toNatClampNeg i)) g)) = 3) (c2 : g 17 (g 11 (Int32.toNatClampNeg (FX12_local t (g 3 (Int32.toNatClampNeg i)) g))).toNatClampNeg = t) : FX12_instruct t i g = FX12_goTo t ((g 12 (Int32.toNatClampNeg t) + 1)) (FX12_work_391 2000 (FX12_local t (g 3 (Int32.toNatClampNeg i)) g) 0 (hs (hs (hs g 0 25 0) 0 31 3) 0 32 (g 11 (Int32.toNatClampNeg (FX12_local t (g 3 (Int32.toNatClampNeg i)) g))))) := by
  have n2 : ∀ a q x (g : ph_H) j, FX12_work_391 q a x g 2 j = g 2 j := fun a q x g j => w391_o q a x g 2 j (by decide) (by decide)
  have n12 : ∀ a q x (g : ph_H) j, FX12_work_391 q a x g 12 j = g 12 j := fun a q x g j => w391_o q a x g 12 j (by decide) (by decide)
  unfold FX12_instruct FX12_instruct_98 FX12_instruct_102 FX12_instruct_144 FX12_instruct_148 FX12_instruct_149 FX12_instruct_177 FX12_instruct_195 FX12_instruct_204 FX12_instruct_251 FX12_why FX12_work FX12_workPlain FX12_why_99 FX12_why_169 FX12_why_196 FX12_why_266 FX12_work_88 FX12_work_111 FX12_work_134 FX12_work_152 FX12_work_155 FX12_work_212 FX12_workPlain_116 FX12_workPlain_153 FX12_workPlain_191 FX12_workPlain_206 FX12_workPlain_219 FX12_workPlain_222 FX12_workPlain_256 FX12_workPlain_259 FX12_set
  simp (decide := true) only [o, c1, c2, hs_get, ↓reduceIte, hs_hs, n2, n12]
/-- a FAILURE -/
theorem ins_f {w : Int32} (n17 : ¬ g 2 i.toNatClampNeg = 17) (e : FX12_why t (g 2 i.toNatClampNeg) (FX12_local t (g 3 (Int32.toNatClampNeg i)) g) (FX12_local t (g 4 (Int32.toNatClampNeg i)) g) (FX12_local t (g 5 (Int32.toNatClampNeg i)) g) (g 4 i.toNatClampNeg) g = w) (p : ¬ w ≤ 0) : FX12_instruct t i g = hs g 0 25 w := by
  unfold FX12_instruct FX12_instruct_98 FX12_instruct_102
  rw [e]
  simp (decide := true) only [n17, p, hs_get, ↓reduceIte, hs_hs]
end
