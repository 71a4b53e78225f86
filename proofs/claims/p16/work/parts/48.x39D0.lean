/-! what when answers -/
def Bw (g : ph_H) (a : Nat) (v : Int32) (s : Nat) : Int32 := if g 20 (28 * s + a) = 0 then (if g 21 (28 * s + a) = v then 1 else 0) else 0
theorem Bw01 (g : ph_H) (a : Nat) (v : Int32) (s : Nat) : Bw g a v s = 0 ∨ Bw g a v s = 1 := by
  unfold Bw
  repeat' split
  all_goals first | exact Or.inl rfl | exact Or.inr rfl
section
variable {g : ph_H} {a v n k r pv st s : Int32} {q : Nat}
theorem wh_step (ha : iv 0 11 a) (hs' : iv 0 300 s) (f38 : iv 0 300 (g 0 38)) (l : s.toInt ≤ (g 0 38).toInt) : FX12_when_54 (q + 1) a v n k r pv st s g = if Bw g a.toNatClampNeg v s.toNatClampNeg = 0 then (if pv = 0 then FX12_when_54 q a v n k r 0 st (s + 1) g else if r = n then (if k ≤ 0 then FX12_when_54 q a v n k (r + 1) 0 st (s + 1) g else if k = 1 then (st, g) else (s - 1, g)) else FX12_when_54 q a v n k (r + 1) 0 st (s + 1) g) else (if pv = 0 then FX12_when_54 q a v n k r 1 s (s + 1) g else FX12_when_54 q a v n k r 1 st (s + 1) g) := by
  have k1 : (1 : Int32).toInt = 1 := by decide
  have fa : iv 0 200 a := ⟨ha.1, by have := ha.2; omega⟩
  unfold iv at f38
  have e1 : (g 0 38 + 1).toInt = (g 0 38).toInt + 1 := by rw [ti_add (by omega) (by omega), k1]
  have n1 : ¬ g 0 38 + 1 < s := by rw [Int32.lt_iff_toInt_lt]; omega
  have n2 : ¬ g 0 38 < s := by rw [Int32.lt_iff_toInt_lt]; omega
  show FX12_when_54 (q + 1) a v n k r pv st s g = _
  rw [FX12_when_54]
  unfold FX12_when_109 FX12_when_110 FX12_when_126 FX12_when_163 FX12_when_166 Bw
  rw [if_neg n1, if_neg n2, ixm (c := 28) (m := 28) hs' fa rfl]
  by_cases c : g 20 (28 * s.toNatClampNeg + a.toNatClampNeg) = 0
  · by_cases d : g 21 (28 * s.toNatClampNeg + a.toNatClampNeg) = v
    · simp (decide := true) only [c, d, ↓reduceIte]
    · simp (decide := true) only [c, d, ↓reduceIte]
  · simp (decide := true) only [c, ↓reduceIte]
theorem wh_last (f38 : iv 0 300 (g 0 38)) (l : s = g 0 38 + 1) : FX12_when_54 (q + 1) a v n k r pv st s g = (if pv = 0 then FX12_when_54 q a v n k r 0 st (s + 1) g else if r = n then (if k ≤ 0 then FX12_when_54 q a v n k (r + 1) 0 st (s + 1) g else if k = 1 then (st, g) else (s - 1, g)) else FX12_when_54 q a v n k (r + 1) 0 st (s + 1) g) := by
  have k1 : (1 : Int32).toInt = 1 := by decide
  unfold iv at f38
  have e1 : (g 0 38 + 1).toInt = (g 0 38).toInt + 1 := by rw [ti_add (by omega) (by omega), k1]
  subst l
  have n1 : ¬ g 0 38 + 1 < g 0 38 + 1 := by rw [Int32.lt_iff_toInt_lt]; omega
  have n2 : g 0 38 < g 0 38 + 1 := by rw [Int32.lt_iff_toInt_lt]; omega
  rw [FX12_when_54]
  unfold FX12_when_109 FX12_when_110 FX12_when_126 FX12_when_163 FX12_when_166
  rw [if_neg n1, if_pos n2]
  simp (decide := true) only [↓reduceIte]
theorem wh_over (f38 : iv 0 300 (g 0 38)) (l : s = g 0 38 + 1) (h1 : 1 ≤ q) : (FX12_when_54 q a v n k r pv st (s + 1) g).1 = if k = 0 then r else -1 := by
  have k1 : (1 : Int32).toInt = 1 := by decide
  obtain ⟨q, rfl⟩ : ∃ p, q = p + 1 := ⟨q - 1, by omega⟩
  unfold iv at f38
  have e1 : (g 0 38 + 1).toInt = (g 0 38).toInt + 1 := by rw [ti_add (by omega) (by omega), k1]
  subst l
  have e2 : (g 0 38 + 1 + 1).toInt = (g 0 38).toInt + 2 := by rw [ti_add (by omega) (by omega), k1, e1]; omega
  have n1 : g 0 38 + 1 < g 0 38 + 1 + 1 := by rw [Int32.lt_iff_toInt_lt]; omega
  rw [FX12_when_54, if_pos n1]
  split <;> rfl
end
/-- the class knows what a cell held behind each step -/
def HB (h g : ph_H) (a v : Int32) : Prop := ∀ s x : Int32, 0 ≤ s.toInt → s.toInt ≤ (g 0 38).toInt → (s = 0 → x = Bw g a.toNatClampNeg v 0) → (0 < s.toInt → x = Bw g a.toNatClampNeg v (s.toNatClampNeg - 1)) → FX10_holdsBehind s a v x h = Bw g a.toNatClampNeg v s.toNatClampNeg
theorem HB_of {z : zT} {h g : ph_H} {a : Int32} (P : LR h g) (J : IT z g) (n : ¬ g 0 36 = 0) (ha : iv 0 11 a) (v : Int32) : HB h g a v := by
  intro s x s0 s1 x0 x1
  have k0 : (0 : Int32).toInt = 0 := by decide
  have f300 : iv 0 300 (g 0 38) := ITv J 0 38
  have n38 := iv_nat f300 rfl
  have an := iv_nat ha rfl
  unfold iv at f300 ha
  have sn : (s.toNatClampNeg : Int) = s.toInt := by
    rw [← Int32.toNat_toInt]
    omega
  obtain ⟨q1, q2, q3, q4, q5, q6, q7, q8, q9, q10⟩ := P.2.1.2 n
  obtain ⟨-, -, Gs, S1, -⟩ := P.2.2.1 n
  unfold FX10_holdsBehind
  by_cases c : s = 0
  · rw [if_pos c, x0 c, c]
    rfl
  · rw [if_neg c]
    have sp : 0 < s.toInt := by
      have : ¬ s.toInt = 0 := fun w => c (tI (w.trans k0.symm))
      omega
    obtain ⟨t1, t2, t3, t4, t5, t6, t7, t8, t9⟩ := q9 s.toNatClampNeg (by omega) (by omega)
    rw [t5, x1 sp]
    by_cases d : g 33 s.toNatClampNeg = a
    · rw [if_pos d]
      rw [d] at t8
      obtain ⟨u1, u2⟩ := t8 ha.1 (by omega)
      rw [u1, u2]
      rfl
    · rw [if_neg d]
      obtain ⟨p, ep⟩ : ∃ p, s.toNatClampNeg = p + 1 := ⟨s.toNatClampNeg - 1, by omega⟩
      obtain ⟨-, -, cw⟩ := S1.2.1 p (by omega)
      rw [← ep] at cw
      have ka := (S1.1 p (by omega)).2.1.1 a.toNatClampNeg (by omega)
      have kb := (S1.1 s.toNatClampNeg (by omega)).2.1.1 a.toNatClampNeg (by omega)
      rcases cw a.toNatClampNeg (by omega) with w | w
      · rw [ep] at kb w
        have e1 : s.toNatClampNeg - 1 = p := by omega
        rw [e1, ep]
        unfold Bw
        rw [ka.1, ka.2, kb.1, kb.2, w.1, w.2]
      · exact absurd (tI (by omega)) d
section
variable {h g : ph_H} {a v : Int32}
theorem wc_eq (ha : iv 0 11 a) (f38 : iv 0 300 (g 0 38)) (e11 : h 35 11 = g 0 38) (H : HB h g a v) (n : Int32) : ∀ (q : Nat) (c r pv x st s : Int32), c = r + pv → (pv = 0 ∨ pv = 1) → iv 0 301 s → s.toInt ≤ (g 0 38).toInt + 1 → (s = 0 → x = Bw g a.toNatClampNeg v 0) → (0 < s.toInt → x = Bw g a.toNatClampNeg v (s.toNatClampNeg - 1)) → (g 0 38).toInt + 2 - s.toInt < (q : Int) → FX10_spanCount_21 q a v c pv x s h = (FX12_when_54 q a v n 0 r pv st s g).1
  | 0, c, r, pv, x, st, s, ec, ev, fs, l, x0, x1, m => by unfold iv at f38; omega
  | q + 1, c, r, pv, x, st, s, ec, ev, fs, l, x0, x1, m => by
    have k0 : (0 : Int32).toInt = 0 := by decide
    have k1 : (1 : Int32).toInt = 1 := by decide
    have sn := iv_nat fs rfl
    unfold iv at fs
    have f38' := f38
    unfold iv at f38'
    have e1 : (s + 1).toInt = s.toInt + 1 := by rw [ti_add (by omega) (by omega), k1]
    have es : (g 0 38 + 1).toInt = (g 0 38).toInt + 1 := by rw [ti_add (by omega) (by omega), k1]
    have en : (s + 1).toNatClampNeg - 1 = s.toNatClampNeg := by
      have : ((s + 1).toNatClampNeg : Int) = s.toInt + 1 := by
        rw [← Int32.toNat_toInt]
        omega
      omega
    rw [FX10_spanCount_21]
    unfold FX10_spanCount_55
    rw [e11]
    by_cases o : g 0 38 < s
    · rw [if_pos o]
      rw [Int32.lt_iff_toInt_lt] at o
      have eo : s = g 0 38 + 1 := tI (by omega)
      rw [wh_last f38 eo]
      rcases ev with rfl | rfl
      · rw [if_pos rfl, wh_over f38 eo (by omega), if_pos rfl, ec, Int32.add_zero]
      · have w := fun n k r pv st => wh_over (a := a) (v := v) (n := n) (k := k) (r := r) (pv := pv) (st := st) (q := q) f38 eo (by omega)
        by_cases rn : r = n
        · simp (decide := true) only [rn, w, ↓reduceIte]
          rw [ec, rn]
        · simp (decide := true) only [rn, w, ↓reduceIte]
          exact ec
    · rw [if_neg o]
      rw [Int32.lt_iff_toInt_lt] at o
      rw [H s x (by omega) (by omega) x0 x1, wh_step ha ⟨fs.1, by omega⟩ f38 (by omega)]
      rcases Bw01 g a.toNatClampNeg v s.toNatClampNeg with b | b
      · rcases ev with rfl | rfl
        · rw [b, if_pos rfl, if_pos rfl, if_pos rfl]
          exact wc_eq ha f38 e11 H n q c r 0 0 st (s + 1) ec (Or.inl rfl) (by unfold iv; omega) (by omega) (fun w => absurd (congrArg Int32.toInt w) (by rw [e1, k0]; omega)) (fun _ => by rw [en]; exact b.symm) (by omega)
        · have ih := wc_eq ha f38 e11 H n q c (r + 1) 0 0 st (s + 1) (by rw [ec, Int32.add_zero]) (Or.inl rfl) (by unfold iv; omega) (by omega) (fun w => absurd (congrArg Int32.toInt w) (by rw [e1, k0]; omega)) (fun _ => by rw [en]; exact b.symm) (by omega)
          by_cases rn : r = n
          · simp (decide := true) only [b, rn, ↓reduceIte]
            rw [rn] at ih
            exact ih
          · simp (decide := true) only [b, rn, ↓reduceIte]
            exact ih
      · rcases ev with rfl | rfl
        · rw [b, if_neg (by decide), if_pos rfl, if_neg (by decide), if_pos rfl]
          exact wc_eq ha f38 e11 H n q (c + 1) r 1 1 s (s + 1) (by rw [ec, Int32.add_zero]) (Or.inr rfl) (by unfold iv; omega) (by omega) (fun w => absurd (congrArg Int32.toInt w) (by rw [e1, k0]; omega)) (fun _ => by rw [en]; exact b.symm) (by omega)
        · rw [b, if_neg (by decide), if_neg (by decide), if_neg (by decide), if_neg (by decide)]
          exact wc_eq ha f38 e11 H n q c r 1 1 st (s + 1) ec (Or.inr rfl) (by unfold iv; omega) (by omega) (fun w => absurd (congrArg Int32.toInt w) (by rw [e1, k0]; omega)) (fun _ => by rw [en]; exact b.symm) (by omega)
/-- in the span that is asked for, its first step is the answer -/
theorem wf_in (ha : iv 0 11 a) (f38 : iv 0 300 (g 0 38)) (n : Int32) : ∀ (q : Nat) (st s : Int32), iv 0 301 s → s.toInt ≤ (g 0 38).toInt + 1 → (g 0 38).toInt + 2 - s.toInt < (q : Int) → (FX12_when_54 q a v n 1 n 1 st s g).1 = st
  | 0, st, s, fs, l, m => by unfold iv at f38; omega
  | q + 1, st, s, fs, l, m => by
    have k1 : (1 : Int32).toInt = 1 := by decide
    unfold iv at fs
    have f38' := f38
    unfold iv at f38'
    have e1 : (s + 1).toInt = s.toInt + 1 := by rw [ti_add (by omega) (by omega), k1]
    have es : (g 0 38 + 1).toInt = (g 0 38).toInt + 1 := by rw [ti_add (by omega) (by omega), k1]
    by_cases o : g 0 38 < s
    · rw [Int32.lt_iff_toInt_lt] at o
      rw [wh_last f38 (tI (by omega)), if_neg (by decide), if_pos rfl, if_neg (by decide), if_pos rfl]
    · rw [Int32.lt_iff_toInt_lt] at o
      rw [wh_step ha ⟨fs.1, by omega⟩ f38 (by omega)]
      by_cases b : Bw g a.toNatClampNeg v s.toNatClampNeg = 0
      · rw [if_pos b, if_neg (by decide), if_pos rfl, if_neg (by decide), if_pos rfl]
      · rw [if_neg b, if_neg (by decide)]
        exact wf_in ha f38 n q st (s + 1) (by unfold iv; omega) (by omega) (by omega)
theorem wf_eq (ha : iv 0 11 a) (f38 : iv 0 300 (g 0 38)) (e11 : h 35 11 = g 0 38) (H : HB h g a v) (n : Int32) : ∀ (q : Nat) (c r pv x st s : Int32), c + 1 = r + pv → (pv = 0 ∨ pv = 1) → (pv = 1 → ¬ r = n) → iv 0 301 s → s.toInt ≤ (g 0 38).toInt + 1 → (s = 0 → x = Bw g a.toNatClampNeg v 0) → (0 < s.toInt → x = Bw g a.toNatClampNeg v (s.toNatClampNeg - 1)) → (g 0 38).toInt + 2 - s.toInt < (q : Int) → FX10_spanEdge_21 q a v n 1 c pv x s h = (FX12_when_54 q a v n 1 r pv st s g).1
  | 0, c, r, pv, x, st, s, ec, ev, nn, fs, l, x0, x1, m => by unfold iv at f38; omega
  | q + 1, c, r, pv, x, st, s, ec, ev, nn, fs, l, x0, x1, m => by
    have k0 : (0 : Int32).toInt = 0 := by decide
    have k1 : (1 : Int32).toInt = 1 := by decide
    have sn := iv_nat fs rfl
    unfold iv at fs
    have f38' := f38
    unfold iv at f38'
    have e1 : (s + 1).toInt = s.toInt + 1 := by rw [ti_add (by omega) (by omega), k1]
    have es : (g 0 38 + 1).toInt = (g 0 38).toInt + 1 := by rw [ti_add (by omega) (by omega), k1]
    have en : (s + 1).toNatClampNeg - 1 = s.toNatClampNeg := by
      have : ((s + 1).toNatClampNeg : Int) = s.toInt + 1 := by
        rw [← Int32.toNat_toInt]
        omega
      omega
    rw [FX10_spanEdge_21]
    unfold FX10_spanEdge_70 FX10_spanEdge_92
    rw [e11]
    by_cases o : g 0 38 < s
    · rw [if_pos o]
      rw [Int32.lt_iff_toInt_lt] at o
      have eo : s = g 0 38 + 1 := tI (by omega)
      rw [wh_last f38 eo]
      rcases ev with rfl | rfl
      · rw [if_pos rfl, if_pos rfl, wh_over f38 eo (by omega), if_neg (by decide)]
      · rw [if_neg (by decide), if_neg (by decide), if_neg (by decide), if_neg (nn rfl), wh_over f38 eo (by omega), if_neg (by decide)]
    · rw [if_neg o]
      rw [Int32.lt_iff_toInt_lt] at o
      rw [H s x (by omega) (by omega) x0 x1, wh_step ha ⟨fs.1, by omega⟩ f38 (by omega)]
      rcases Bw01 g a.toNatClampNeg v s.toNatClampNeg with b | b
      · rcases ev with rfl | rfl
        · have ih := wf_eq ha f38 e11 H n q c r 0 0 st (s + 1) ec (Or.inl rfl) (fun w => absurd w (by decide)) (by unfold iv; omega) (by omega) (fun w => absurd (congrArg Int32.toInt w) (by rw [e1, k0]; omega)) (fun _ => by rw [en]; exact b.symm) (by omega)
          simp (decide := true) only [b, ↓reduceIte]
          exact ih
        · have cr : c = r := by
            have := congrArg (· - 1) ec
            simpa [Int32.add_sub_cancel] using this
          have rn := nn rfl
          have cn : ¬ c = n := by rw [cr]; exact rn
          have ih := wf_eq ha f38 e11 H n q c (r + 1) 0 0 st (s + 1) (by rw [cr, Int32.add_zero]) (Or.inl rfl) (fun w => absurd w (by decide)) (by unfold iv; omega) (by omega) (fun w => absurd (congrArg Int32.toInt w) (by rw [e1, k0]; omega)) (fun _ => by rw [en]; exact b.symm) (by omega)
          simp (decide := true) only [b, rn, cn, ↓reduceIte]
          exact ih
      · rcases ev with rfl | rfl
        · have cr : c + 1 = r := by rw [ec, Int32.add_zero]
          simp (decide := true) only [b, ↓reduceIte]
          rw [cr]
          by_cases rn : r = n
          · rw [if_pos rn, rn]
            exact (wf_in ha f38 n q s (s + 1) (by unfold iv; omega) (by omega) (by omega)).symm
          · rw [if_neg rn]
            exact wf_eq ha f38 e11 H n q r r 1 1 s (s + 1) rfl (Or.inr rfl) (fun _ => rn) (by unfold iv; omega) (by omega) (fun w => absurd (congrArg Int32.toInt w) (by rw [e1, k0]; omega)) (fun _ => by rw [en]; exact b.symm) (by omega)
        · have ih := wf_eq ha f38 e11 H n q c r 1 1 st (s + 1) ec (Or.inr rfl) nn (by unfold iv; omega) (by omega) (fun w => absurd (congrArg Int32.toInt w) (by rw [e1, k0]; omega)) (fun _ => by rw [en]; exact b.symm) (by omega)
          simp (decide := true) only [b, ↓reduceIte]
          exact ih
theorem wl_eq (ha : iv 0 11 a) (f38 : iv 0 300 (g 0 38)) (e11 : h 35 11 = g 0 38) (H : HB h g a v) (n : Int32) : ∀ (q : Nat) (c r pv x st s : Int32), c + 1 = r + pv → (pv = 0 ∨ pv = 1) → iv 0 301 s → s.toInt ≤ (g 0 38).toInt + 1 → (s = 0 → x = Bw g a.toNatClampNeg v 0) → (0 < s.toInt → x = Bw g a.toNatClampNeg v (s.toNatClampNeg - 1)) → (g 0 38).toInt + 2 - s.toInt < (q : Int) → FX10_spanEdge_21 q a v n 0 c pv x s h = (FX12_when_54 q a v n 2 r pv st s g).1
  | 0, c, r, pv, x, st, s, ec, ev, fs, l, x0, x1, m => by unfold iv at f38; omega
  | q + 1, c, r, pv, x, st, s, ec, ev, fs, l, x0, x1, m => by
    have k0 : (0 : Int32).toInt = 0 := by decide
    have k1 : (1 : Int32).toInt = 1 := by decide
    have sn := iv_nat fs rfl
    unfold iv at fs
    have f38' := f38
    unfold iv at f38'
    have e1 : (s + 1).toInt = s.toInt + 1 := by rw [ti_add (by omega) (by omega), k1]
    have es : (g 0 38 + 1).toInt = (g 0 38).toInt + 1 := by rw [ti_add (by omega) (by omega), k1]
    have en : (s + 1).toNatClampNeg - 1 = s.toNatClampNeg := by
      have : ((s + 1).toNatClampNeg : Int) = s.toInt + 1 := by
        rw [← Int32.toNat_toInt]
        omega
      omega
    rw [FX10_spanEdge_21]
    unfold FX10_spanEdge_70 FX10_spanEdge_92
    rw [e11]
    have crl : pv = 1 → c = r := fun w => by
      rw [w] at ec
      have := congrArg (· - 1) ec
      simpa [Int32.add_sub_cancel] using this
    by_cases o : g 0 38 < s
    · rw [if_pos o]
      rw [Int32.lt_iff_toInt_lt] at o
      have eo : s = g 0 38 + 1 := tI (by omega)
      rw [wh_last f38 eo]
      rcases ev with rfl | rfl
      · rw [if_pos rfl, if_pos rfl, wh_over f38 eo (by omega), if_neg (by decide)]
      · have w := fun n k r pv st => wh_over (a := a) (v := v) (n := n) (k := k) (r := r) (pv := pv) (st := st) (q := q) f38 eo (by omega)
        rw [crl rfl]
        by_cases rn : r = n
        · simp (decide := true) only [rn, w, ↓reduceIte]
          rw [eo]
          exact (Int32.add_sub_cancel _ _).symm
        · simp (decide := true) only [rn, w, ↓reduceIte]
    · rw [if_neg o]
      rw [Int32.lt_iff_toInt_lt] at o
      rw [H s x (by omega) (by omega) x0 x1, wh_step ha ⟨fs.1, by omega⟩ f38 (by omega)]
      rcases Bw01 g a.toNatClampNeg v s.toNatClampNeg with b | b
      · rcases ev with rfl | rfl
        · have ih := wl_eq ha f38 e11 H n q c r 0 0 st (s + 1) ec (Or.inl rfl) (by unfold iv; omega) (by omega) (fun w => absurd (congrArg Int32.toInt w) (by rw [e1, k0]; omega)) (fun _ => by rw [en]; exact b.symm) (by omega)
          simp (decide := true) only [b, ↓reduceIte]
          exact ih
        · have cr := crl rfl
          have ih := wl_eq ha f38 e11 H n q r (r + 1) 0 0 st (s + 1) (by rw [Int32.add_zero]) (Or.inl rfl) (by unfold iv; omega) (by omega) (fun w => absurd (congrArg Int32.toInt w) (by rw [e1, k0]; omega)) (fun _ => by rw [en]; exact b.symm) (by omega)
          rw [cr]
          by_cases rn : r = n
          · simp (decide := true) only [b, rn, ↓reduceIte]
          · simp (decide := true) only [b, rn, ↓reduceIte]
            exact ih
      · rcases ev with rfl | rfl
        · have cr : c + 1 = r := by rw [ec, Int32.add_zero]
          have ih := wl_eq ha f38 e11 H n q r r 1 1 s (s + 1) rfl (Or.inr rfl) (by unfold iv; omega) (by omega) (fun w => absurd (congrArg Int32.toInt w) (by rw [e1, k0]; omega)) (fun _ => by rw [en]; exact b.symm) (by omega)
          simp (decide := true) only [b, ↓reduceIte]
          rw [cr]
          exact ih
        · have ih := wl_eq ha f38 e11 H n q c r 1 1 st (s + 1) ec (Or.inr rfl) (by unfold iv; omega) (by omega) (fun w => absurd (congrArg Int32.toInt w) (by rw [e1, k0]; omega)) (fun _ => by rw [en]; exact b.symm) (by omega)
          simp (decide := true) only [b, ↓reduceIte]
          exact ih
end
theorem Bw_00 (g : ph_H) : Bw (hs g 0 0 0) = Bw g := by
  funext a v s
  unfold Bw
  rw [hs_o (by simp), hs_o (by simp)]
theorem in02 {k : Int32} : FX12_isIn k.toInt64 0 2 = 0 ↔ ¬ (k = 0 ∨ k = 1 ∨ k = 2) := by
  have l2 : (2 : Int64).toInt = 2 := by decide
  have k0 : (0 : Int32).toInt = 0 := by decide
  have k1 : (1 : Int32).toInt = 1 := by decide
  have k2 : (2 : Int32).toInt = 2 := by decide
  rw [isIn_iff, l0, l2]
  constructor
  · intro w d
    rcases d with d | d | d
    · rw [d, k0] at w
      omega
    · rw [d, k1] at w
      omega
    · rw [d, k2] at w
      omega
  · intro w d
    by_cases c : k.toInt = 0
    · exact w (Or.inl (tI (c.trans k0.symm)))
    · by_cases e : k.toInt = 1
      · exact w (Or.inr (Or.inl (tI (e.trans k1.symm))))
      · exact w (Or.inr (Or.inr (tI (by rw [k2]; omega))))
theorem when_ans {z : zT} {h g : ph_H} (P : LR h g) (J : IT z g) (a v n k : Int32) : FX11_when a v n k h = (FX12_when a v n k g).1 := by
  have k0 : (0 : Int32).toInt = 0 := by decide
  have k2 : (2 : Int32).toInt = 2 := by decide
  have E := P.2.1.1
  unfold FX11_when FX12_when FX11_when_81
  rw [E]
  by_cases c : g 0 36 = 0
  · rw [if_pos c, if_pos c]
  · rw [if_neg c, if_neg c]
    by_cases t : 0 ≤ a.toInt ∧ a.toInt ≤ 11
    · have fa : iv 0 11 a := t
      have an := iv_nat fa rfl
      rw [if_neg (fun w => (isC_iff a).mp w t), if_neg (fun w => isIn_iff.mp w (by rw [l0, l11]; exact t))]
      by_cases d : FX12_isIn k.toInt64 0 2 = 0
      · rw [if_pos d]
        have d' := d
        rw [isIn_iff, l0, show (2 : Int64).toInt = 2 from by decide] at d'
        by_cases u : k < 0
        · rw [if_pos u]
        · rw [if_neg u]
          rw [Int32.lt_iff_toInt_lt, k0] at u
          rw [if_neg (by rw [Int32.le_iff_toInt_le, k2]; omega)]
      · rw [if_neg d]
        have d' : k = 0 ∨ k = 1 ∨ k = 2 := Classical.byContradiction (fun w => d (in02.mpr w))
        have f38 : iv 0 300 (hs g 0 0 0 0 38) := by rw [hs_o (by simp)]; exact ITv J 0 38
        obtain ⟨q1, q2, q3, q4, q5, q6, q7, q8, q9, q10⟩ := P.2.1.2 c
        have e11 : h 35 11 = hs g 0 0 0 0 38 := by rw [hs_o (by simp)]; exact q2
        have H : HB h (hs g 0 0 0) a v := by
          have H := HB_of P J c fa v
          unfold HB at H ⊢
          rw [Bw_00, hs_o (by simp)]
          exact H
        obtain ⟨-, -, Gs, S1, S2, -⟩ := P.2.2.1 c
        have ks := (S1.1 0 (Nat.zero_le _)).2.1.1 a.toNatClampNeg (by unfold iv at fa; omega)
        have rb := (S1.2.2 h S2).1.1 a.toNatClampNeg (by unfold iv at fa; omega)
        obtain ⟨b1, b2, -⟩ := cbeg (h 8 6) h
        rw [b1 _ (by unfold iv at fa; omega), b2 _ (by unfold iv at fa; omega), if_pos (by unfold iv at fa; omega)] at rb
        have B0 : ∀ x, x = (if h 11 a.toNatClampNeg = v then (1 : Int32) else 0) → x = Bw (hs g 0 0 0) a.toNatClampNeg v 0 := fun x e => by
          rw [e, Bw_00]
          unfold Bw
          rw [ks.1, ks.2, ← rb.1, ← rb.2, if_pos rfl]
        have fz : iv 0 301 (0 : Int32) := ⟨by decide, by decide⟩
        have hz : (0 : Int32).toInt ≤ (hs g 0 0 0 0 38).toInt + 1 := by rw [k0]; have := f38.1; omega
        have hm : (hs g 0 0 0 0 38).toInt + 2 - (0 : Int32).toInt < (2000 : Nat) := by rw [k0]; have := f38.2; omega
        have np : (0 : Int32) < 0 → False := by decide
        have nq : 0 < (0 : Int32).toInt → False := by rw [k0]; omega
        rcases d' with rfl | rfl | rfl
        · simp (decide := true) only [↓reduceIte]
          unfold FX10_spanCount FX10_spanCount_16
          have w := fun x e => wc_eq fa f38 e11 H n 2000 0 0 0 x (-1) 0 rfl (Or.inl rfl) fz hz (fun _ => B0 x e) (fun u => absurd u nq) hm
          by_cases o : h 11 a.toNatClampNeg = v
          · rw [if_pos o]
            exact w 1 (by rw [if_pos o])
          · rw [if_neg o]
            exact w 0 (by rw [if_neg o])
        · simp (decide := true) only [↓reduceIte]
          unfold FX10_spanEdge FX10_spanEdge_16
          have w := fun x e => wf_eq fa f38 e11 H n 2000 (-1) 0 0 x (-1) 0 (by decide) (Or.inl rfl) (fun u => absurd u (by decide)) fz hz (fun _ => B0 x e) (fun u => absurd u nq) hm
          by_cases o : h 11 a.toNatClampNeg = v
          · rw [if_pos o]
            exact w 1 (by rw [if_pos o])
          · rw [if_neg o]
            exact w 0 (by rw [if_neg o])
        · simp (decide := true) only [↓reduceIte]
          unfold FX10_spanEdge FX10_spanEdge_16
          have w := fun x e => wl_eq fa f38 e11 H n 2000 (-1) 0 0 x (-1) 0 (by decide) (Or.inl rfl) fz hz (fun _ => B0 x e) (fun u => absurd u nq) hm
          by_cases o : h 11 a.toNatClampNeg = v
          · rw [if_pos o]
            exact w 1 (by rw [if_pos o])
          · rw [if_neg o]
            exact w 0 (by rw [if_neg o])
    · rw [if_pos ((isC_iff a).mpr t), if_pos (isIn_iff.mpr (by rw [l0, l11]; exact t))]
