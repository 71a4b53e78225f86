/-! What the calls that tell a program answer, by many, inputs and turns alone; the same of both sides. -/
abbrev in_ (a b : Int) (x : Int32) : Prop := a ≤ x.toInt ∧ x.toInt ≤ b
def zcR (z : zT) (t o : Int32) : Int32 := if in_ 0 3 t ∧ in_ 0 19 o then (if z 1 t.toNatClampNeg = 24 then (-2) else z 1 t.toNatClampNeg) else (-1)
def zcZ (z : zT) (t o : Int32) : zT := if in_ 0 3 t ∧ in_ 0 19 o then (if z 1 t.toNatClampNeg = 24 then z else hs z 1 t.toNatClampNeg (z 1 t.toNatClampNeg + 1)) else z
def zlR (z : zT) (t : Int32) : Int32 := if in_ 0 3 t then z 1 t.toNatClampNeg else (-1)
def zlZ (z : zT) (t : Int32) : zT := if in_ 0 3 t then hs z 1 t.toNatClampNeg 0 else z
def zeR (c : Int32) : Int32 := if in_ 0 11 c then 0 else (-1)
def ziR (z : zT) : Int32 := if z 0 7 = 30 then (-2) else z 0 7 + 1
def ziZ (z : zT) : zT := if z 0 7 = 30 then z else hs z 0 7 (z 0 7 + 1)
def ztR (z : zT) (t n : Int32) : Int32 := if in_ 0 3 t ∧ in_ 1 100 n then (if z 0 9 = 40 then (-2) else z 0 9 + 1) else (-1)
def ztZ (z : zT) (t n : Int32) : zT := if in_ 0 3 t ∧ in_ 1 100 n then (if z 0 9 = 40 then z else hs z 0 9 (z 0 9 + 1)) else z
def zfZ (z : zT) : zT := hs z 0 9 0
def QZ (r : Int32) (z : zT) (o : Int32 × ph_H) : Prop := o.1 = r ∧ IT z o.2
theorem QZ_mk {r x : Int32} {z : zT} {h : ph_H} (e : x = r) (I : IT z h) : QZ r z (x, h) := ⟨e, I⟩
theorem isIn_no {x : Int32} {l u : Int64} {a b : Int} (c : FX12_isIn x.toInt64 l u = 0) (q : (decide (l.toInt = a) && decide (u.toInt = b)) = true) : ¬ in_ a b x := by
  simp only [Bool.and_eq_true, decide_eq_true_eq] at q
  intro w
  refine isIn_f c ?_
  rw [Int64.le_iff_toInt_le, Int64.le_iff_toInt_le, Int32.toInt_toInt64]
  unfold in_ at w
  omega
theorem ITa {z : zT} {h : ph_H} (k i : Nat) {v : Int32} (I : IT z h) (t : (decide ((tM k i).1 = -2147483648) && decide ((tM k i).2 = 2147483647)) = true) (q : okM k i = true) : IT z (hs h k i v) := by
  obtain ⟨z', a, b, c⟩ := I
  exact ⟨z', a, IMa k i b t q, c⟩
theorem zm_1 {z z' : zT} {i : Nat} {v : Int32} (m : zm z z') : zm (hs z 1 i v) (hs z' 1 i v) := by
  refine ⟨fun j => ?_, ?_, ?_⟩
  · by_cases e : j = i
    · subst e
      rw [hz_e, hz_e]
    · rw [hs_o (fun w => e w.2), hs_o (fun w => e w.2)]
      exact m.1 j
  · rw [hz_k rfl, hz_k rfl]
    exact m.2.1
  · rw [hz_k rfl, hz_k rfl]
    exact m.2.2
theorem zm_7 {z z' : zT} {v : Int32} (m : zm z z') : zm (hs z 0 7 v) (hs z' 0 7 v) := by
  refine ⟨fun j => ?_, ?_, ?_⟩
  · rw [hz_k rfl, hz_k rfl]
    exact m.1 j
  · rw [hz_e, hz_e]
  · rw [hz_i rfl, hz_i rfl]
    exact m.2.2
theorem zm_9 {z z' : zT} {v : Int32} (m : zm z z') : zm (hs z 0 9 v) (hs z' 0 9 v) := by
  refine ⟨fun j => ?_, ?_, ?_⟩
  · rw [hz_k rfl, hz_k rfl]
    exact m.1 j
  · rw [hz_i rfl, hz_i rfl]
    exact m.2.1
  · rw [hz_e, hz_e]
theorem zm_o {z z' : zT} {k i : Nat} {v : Int32} (m : zm z z') (n1 : Nat.beq 1 k = false) (n0 : Nat.beq 0 k = false) : zm z (hs z' k i v) := ⟨fun j => (hz_k n1).trans (m.1 j), (hz_k n0).trans m.2.1, (hz_k n0).trans m.2.2⟩
set_option maxRecDepth 100000 in
theorem SX12_code {z : zT} (a0 a1 a2 a3 a4 : Int32) (h : ph_H) (I : IT z h) : PX12_code a0 a1 a2 a3 a4 h ∧ QZ (zcR z a0 a1) (zcZ z a0 a1) (FX12_code a0 a1 a2 a3 a4 h) := by
  have I0 : IT z (hs h 0 0 0) := ITa 0 0 I rfl rfl
  unfold PX12_code FX12_code
  have no : ¬ (in_ 0 3 a0 ∧ in_ 0 19 a1) → True ∧ QZ (zcR z a0 a1) (zcZ z a0 a1) ((-1 : Int32), hs h 0 0 0) := fun n => by
    unfold zcR zcZ
    rw [if_neg n, if_neg n]
    exact ⟨trivial, QZ_mk rfl I0⟩
  refine sf_n isIn_p (sf_if (fun c => no (fun w => isIn_no c rfl w.1)) (fun c1 => sf_n isIn_p (sf_if (fun c => no (fun w => isIn_no c rfl w.2)) (fun c2 => ?_))))
  have f0 : iv 0 3 a0 := isIn_iv (iv_any a0) (lw_lit (lo := 0) (hi := 0) (x := 0) rfl) (lw_lit (lo := 3) (hi := 3) (x := 3) rfl) c1 rfl
  have f1 : iv 0 19 a1 := isIn_iv (iv_any a1) (lw_lit (lo := 0) (hi := 0) (x := 0) rfl) (lw_lit (lo := 19) (hi := 19) (x := 19) rfl) c2 rfl
  have y : in_ 0 3 a0 ∧ in_ 0 19 a1 := ⟨f0, f1⟩
  obtain ⟨z1, m, i, e⟩ := I
  have eh : h 1 (a0.toNatClampNeg) = z 1 (a0.toNatClampNeg) := (IMz i 1 _ rfl).trans (m.1 _)
  unfold zcR zcZ
  rw [if_pos y, if_pos y]
  refine sf_n (iv_in f0 rfl) (sf_if (fun c => ?_) (fun c => ?_))
  · rw [if_pos (eh.symm.trans c), if_pos (eh.symm.trans c)]
    exact ⟨trivial, QZ_mk rfl I0⟩
  · have n : ¬ z 1 (a0.toNatClampNeg) = 24 := fun w => c (eh.trans w)
    rw [if_neg n, if_neg n]
    have g : iv 0 24 (h 1 (a0.toNatClampNeg)) := IMv i 1 _
    have g2 : iv 0 23 (h 1 (a0.toNatClampNeg)) := iv_nel (y := 24) g c rfl
    have fm : iv 0 72 (24 * a0) := iv_mul (c := 24) rfl f0 rfl
    have fi : iv 0 95 ((24 * a0) + (h 1 (a0.toNatClampNeg))) := iv_add fm g2 rfl
    have f3 : iv 0 24 ((h 1 (a0.toNatClampNeg)) + 1) := iv_w (c := 0) (d := 24) (iv_add (lo := 1) (hi := 24) g2 (iv_lit (lo := 1) (hi := 1) (x := 1) rfl) rfl) rfl
    refine sf_n (iv_in f0 rfl) (sf_n (iv_in fi rfl) (sf_n (iv_in fi rfl) (sf_n (iv_in fi rfl) (sf_n (iv_in fi rfl) (sf_n (iv_in f0 rfl) (sf_n (iv_in f0 rfl) (sf_n (iv_in f0 rfl) ⟨trivial, QZ_mk ?_ ?_⟩)))))))
    · rw [hz_e, eh]
      have t1 := ti_inc g2 rfl
      rw [eh] at t1
      apply Int32.toInt_inj.mp
      rw [eh] at g2
      unfold iv at g2
      rw [ti_sub (by rw [t1, ti_1]; omega) (by rw [t1, ti_1]; omega), t1, ti_1]
      omega
    · rw [← eh]
      exact ⟨_, zm_1 (zm_o m rfl rfl), IMg (k := 1) (IMa 5 _ (IMa 4 _ (IMa 3 _ (IMg (k := 2) (IMa 0 0 i rfl rfl) (iv_any a1) rfl) rfl rfl) rfl rfl) rfl rfl) (show iv 0 24 _ from f3) rfl, (hz_k rfl).trans ((hz_k rfl).trans e)⟩
theorem SX12_clear {z : zT} (a0 : Int32) (h : ph_H) (I : IT z h) : PX12_clear a0 h ∧ QZ (zlR z a0) (zlZ z a0) (FX12_clear a0 h) := by
  have I0 : IT z (hs h 0 0 0) := ITa 0 0 I rfl rfl
  unfold PX12_clear FX12_clear zlR zlZ
  refine sf_n isIn_p (sf_if (fun c => ?_) (fun c1 => ?_))
  · have n : ¬ in_ 0 3 a0 := isIn_no c rfl
    rw [if_neg n, if_neg n]
    exact ⟨trivial, QZ_mk rfl I0⟩
  · have f0 : iv 0 3 a0 := isIn_iv (iv_any a0) (lw_lit (lo := 0) (hi := 0) (x := 0) rfl) (lw_lit (lo := 3) (hi := 3) (x := 3) rfl) c1 rfl
    have y : in_ 0 3 a0 := f0
    rw [if_pos y, if_pos y]
    obtain ⟨z1, m, i, e⟩ := I
    have eh : h 1 (a0.toNatClampNeg) = z 1 (a0.toNatClampNeg) := (IMz i 1 _ rfl).trans (m.1 _)
    exact sf_n (iv_in f0 rfl) (sf_n (iv_in f0 rfl) ⟨trivial, QZ_mk eh ⟨_, zm_1 m, IMg (k := 1) (IMa 0 0 i rfl rfl) (show iv 0 24 0 from ⟨by decide, by decide⟩) rfl, (hz_k rfl).trans e⟩⟩)
theorem SX12_cell_T {z : zT} (a0 a1 : Int32) (h : ph_H) (I : IT z h) : PX12_cell a0 a1 h ∧ QZ (zeR a0) z (FX12_cell a0 a1 h) := by
  have I0 : IT z (hs h 0 0 0) := ITa 0 0 I rfl rfl
  unfold PX12_cell FX12_cell zeR
  refine sf_n isIn_p (sf_if (fun c => ?_) (fun c1 => ?_))
  · have n : ¬ in_ 0 11 a0 := isIn_no c rfl
    rw [if_neg n]
    exact ⟨trivial, QZ_mk rfl I0⟩
  · have f0 : iv 0 11 a0 := isIn_iv (iv_any a0) (lw_lit (lo := 0) (hi := 0) (x := 0) rfl) (lw_lit (lo := 11) (hi := 11) (x := 11) rfl) c1 rfl
    have y : in_ 0 11 a0 := f0
    rw [if_pos y]
    exact sf_n (iv_in f0 rfl) ⟨trivial, QZ_mk rfl (ITa 6 _ I0 rfl rfl)⟩
theorem SX12_input {z : zT} (a0 : Int32) (h : ph_H) (I : IT z h) : PX12_input a0 h ∧ QZ (ziR z) (ziZ z) (FX12_input a0 h) := by
  have I0 : IT z (hs h 0 0 0) := ITa 0 0 I rfl rfl
  obtain ⟨z1, m, i, e⟩ := I
  have eh : h 0 7 = z 0 7 := (IMz i 0 7 rfl).trans m.2.1
  unfold PX12_input FX12_input ziR ziZ
  refine sf_if (fun c => ?_) (fun c => ?_)
  · rw [if_pos (eh.symm.trans c), if_pos (eh.symm.trans c)]
    exact ⟨trivial, QZ_mk rfl I0⟩
  · have n : ¬ z 0 7 = 30 := fun w => c (eh.trans w)
    rw [if_neg n, if_neg n]
    have g : iv 0 30 (h 0 7) := IMv i 0 7
    have g2 : iv 0 29 (h 0 7) := iv_nel (y := 30) g c rfl
    have f3 : iv 0 30 ((h 0 7) + 1) := iv_w (c := 0) (d := 30) (iv_add (lo := 1) (hi := 30) g2 (iv_lit (lo := 1) (hi := 1) (x := 1) rfl) rfl) rfl
    refine sf_n (iv_in g2 rfl) ⟨trivial, QZ_mk (by rw [eh]) ?_⟩
    rw [← eh]
    exact ⟨_, zm_7 m, IMg (k := 0) (i := 7) (IMa 7 _ (IMa 0 0 i rfl rfl) rfl rfl) (show iv 0 30 _ from f3) rfl, (hz_i rfl).trans e⟩
theorem SX12_turn {z : zT} (a0 a1 : Int32) (h : ph_H) (I : IT z h) : PX12_turn a0 a1 h ∧ QZ (ztR z a0 a1) (ztZ z a0 a1) (FX12_turn a0 a1 h) := by
  have I0 : IT z (hs h 0 0 0) := ITa 0 0 I rfl rfl
  unfold PX12_turn FX12_turn
  have no : ¬ (in_ 0 3 a0 ∧ in_ 1 100 a1) → True ∧ QZ (ztR z a0 a1) (ztZ z a0 a1) ((-1 : Int32), hs h 0 0 0) := fun n => by
    unfold ztR ztZ
    rw [if_neg n, if_neg n]
    exact ⟨trivial, QZ_mk rfl I0⟩
  refine sf_n isIn_p (sf_if (fun c => no (fun w => isIn_no c rfl w.1)) (fun c1 => sf_n isIn_p (sf_if (fun c => no (fun w => isIn_no c rfl w.2)) (fun c2 => ?_))))
  have f0 : iv 0 3 a0 := isIn_iv (iv_any a0) (lw_lit (lo := 0) (hi := 0) (x := 0) rfl) (lw_lit (lo := 3) (hi := 3) (x := 3) rfl) c1 rfl
  have f1 : iv 1 100 a1 := isIn_iv (iv_any a1) (lw_lit (lo := 1) (hi := 1) (x := 1) rfl) (lw_lit (lo := 100) (hi := 100) (x := 100) rfl) c2 rfl
  have y : in_ 0 3 a0 ∧ in_ 1 100 a1 := ⟨f0, f1⟩
  obtain ⟨z1, m, i, e⟩ := I
  have eh : h 0 9 = z 0 9 := (IMz i 0 9 rfl).trans m.2.2
  unfold ztR ztZ
  rw [if_pos y, if_pos y]
  refine sf_if (fun c => ?_) (fun c => ?_)
  · rw [if_pos (eh.symm.trans c), if_pos (eh.symm.trans c)]
    exact ⟨trivial, QZ_mk rfl I0⟩
  · have n : ¬ z 0 9 = 40 := fun w => c (eh.trans w)
    rw [if_neg n, if_neg n]
    have g : iv 0 40 (h 0 9) := IMv i 0 9
    have g2 : iv 0 39 (h 0 9) := iv_nel (y := 40) g c rfl
    have f3 : iv 0 40 ((h 0 9) + 1) := iv_w (c := 0) (d := 40) (iv_add (lo := 1) (hi := 40) g2 (iv_lit (lo := 1) (hi := 1) (x := 1) rfl) rfl) rfl
    refine sf_n (iv_in g2 rfl) (sf_n (iv_in g2 rfl) ⟨trivial, QZ_mk (by rw [eh]) ?_⟩)
    rw [← eh]
    exact ⟨_, zm_9 m, IMg (k := 0) (i := 9) (IMs (k := 9) (IMs (k := 8) (IMa 0 0 i rfl rfl) (show iv 0 3 a0 from f0) rfl) (show iv 0 100 a1 from iv_w f1 rfl) rfl) (show iv 0 40 _ from f3) rfl, (hz_i rfl).trans e⟩
theorem SX12_freely {z : zT} (h : ph_H) (I : IT z h) : PX12_freely h ∧ QZ (z 0 9) (zfZ z) (FX12_freely h) := by
  obtain ⟨z1, m, i, e⟩ := I
  exact ⟨trivial, QZ_mk ((IMz i 0 9 rfl).trans m.2.2) ⟨_, zm_9 m, IMg (k := 0) (i := 9) (IMa 0 0 i rfl rfl) (show iv 0 40 0 from ⟨by decide, by decide⟩) rfl, (hz_i rfl).trans e⟩⟩
/-! keep and copy -/
theorem S_kp174 {z : zT} : ∀ (q : Nat) (x1 x2 x4 : Int32) (h : ph_H), IM z h → iv 0 7 x1 → (¬ x2 = 2 → iv 0 12 (h 45 (x1.toNatClampNeg))) → iv 0 60 x4 → 60 - x4.toInt < (q : Int) → PX12_keep__174 q x1 x2 x4 h ∧ Qi z 0 0 (FX12_keep__174 q x1 x2 x4 h) := by
  intro q
  induction q with
  | zero =>
    intro x1 x2 x4 h I f1 E f4 mq
    exact mu_zu f4 mq rfl
  | succ q ih =>
    intro x1 x2 x4 h I f1 E f4 mq
    unfold PX12_keep__174 FX12_keep__174
    have g : iv 0 60 (h 45 (x1.toNatClampNeg)) := IMv I 45 _
    have g38 : iv 0 300 (h 0 38) := IMv I 0 38
    refine sf_n (iv_in f1 rfl) (sf_if (fun _ => ⟨trivial, Qi_mk ⟨by decide, by decide⟩ I⟩) (fun c => ?_))
    have f5 : iv 0 59 x4 := iv_ltl f4 g (nle c) rfl
    have f6 : iv 0 479 ((60 * x1) + x4) := iv_add (iv_mul (c := 60) (lo := 0) (hi := 420) rfl f1 rfl) f5 rfl
    have f7 : iv 1 60 (x4 + 1) := iv_add f5 (iv_lit (lo := 1) (hi := 1) (x := 1) rfl) rfl
    have T : ∀ v : Int32, PX12_keep__246 (PX12_keep__174 q) x1 x2 x4 v ((60 * x1) + x4) h ∧ Qi z 0 0 (FX12_keep__246 (FX12_keep__174 q) x1 x2 x4 v ((60 * x1) + x4) h) := fun v => by
      unfold PX12_keep__246 FX12_keep__246
      exact sf_n (iv_in f6 rfl) (ih x1 x2 (x4 + 1) _ (IMa 48 _ I rfl rfl) f1 (fun n => iv_r (hz_k rfl) (E n)) (iv_w f7 rfl) (mu_up f5 mq rfl))
    refine sf_if (fun _ => sf_n (iv_in f7 rfl) (T _)) (fun n => ?_)
    have f8 : iv 0 11 x4 := iv_ltl f4 (E n) (nle c) rfl
    have f9 : iv 0 8411 ((28 * (h 0 38)) + x4) := iv_add (iv_mul (c := 28) (lo := 0) (hi := 8400) rfl g38 rfl) f8 rfl
    exact sf_n (iv_in f9 rfl) (sf_if (fun _ => sf_n (iv_in f9 rfl) (T _)) (fun _ => T _))
theorem S_kp170 {z : zT} {h : ph_H} {x1 x2 s0 : Int32} (I : IM z h) (f1 : iv 0 7 x1) (f0 : iv 0 60 s0) (E : ¬ x2 = 2 → iv 0 12 s0) : PX12_keep__170 x1 x2 s0 x1 h ∧ Qi z 0 0 (FX12_keep__170 x1 x2 s0 x1 h) := by
  unfold PX12_keep__170 FX12_keep__170
  exact sf_n (iv_in f1 rfl) (S_kp174 2000 x1 x2 0 _ (IMs (k := 45) I (show iv 0 60 s0 from f0) rfl) f1 (fun n => iv_r hz_e (E n)) ⟨by decide, by decide⟩ (by decide))
theorem S_kp63 {z : zT} {h : ph_H} {x1 x2 x3 : Int32} (I : IM z h) (f1 : iv 0 7 x1) (f2 : iv 0 3 x2) (E : x2 = 1 → iv 0 11 x3) : PX12_keep__63 x1 x2 x3 h ∧ Qi z 0 0 (FX12_keep__63 x1 x2 x3 h) := by
  unfold PX12_keep__63 FX12_keep__63
  have g38 : iv 0 300 (h 0 38) := IMv I 0 38
  have z0 : iv 0 60 (0 : Int32) := ⟨by decide, by decide⟩
  have I2 : IM z (hs (hs h 44 x1.toNatClampNeg x2) 45 x1.toNatClampNeg 0) := IMs (k := 45) (IMa 44 _ I rfl rfl) (show iv 0 60 0 from z0) rfl
  refine sf_n (iv_in f1 rfl) (sf_n (iv_in f1 rfl) (sf_if (fun c => ?_) (fun c => sf_if (fun _ => ⟨trivial, Qi_mk ⟨by decide, by decide⟩ I2⟩) (fun c2 => sf_if (fun c3 => ?_) (fun c3 => ?_)))))
  · have f3 := E c
    have f9 : iv 0 3611 ((12 * (h 0 38)) + x3) := iv_add (iv_mul (c := 12) (lo := 0) (hi := 3600) rfl g38 rfl) f3 rfl
    have g27 : iv 0 16 (h 27 (((12 * (h 0 38)) + x3).toNatClampNeg)) := IMv I 27 _
    exact sf_n (iv_in f1 rfl) (sf_n (iv_in f9 rfl) (sf_n (iv_in f1 rfl) (sf_n (iv_in f9 rfl) (sf_n (iv_in f1 rfl) ⟨trivial, Qi_mk ⟨by decide, by decide⟩ (IMs (k := 45) (IMa 47 _ (IMa 46 _ I2 rfl rfl) rfl rfl) (show iv 0 60 _ from iv_w g27 rfl) rfl)⟩))))
  · exact S_kp170 I2 f1 ⟨by decide, by decide⟩ (fun _ => ⟨by decide, by decide⟩)
  · have f22 : x2 = 2 := by
      have h1 : (1 : Int32).toInt = 1 := by decide
      have h2 : (2 : Int32).toInt = 2 := by decide
      have h3 : (3 : Int32).toInt = 3 := by decide
      have a := nle c2
      rw [Int32.lt_iff_toInt_lt] at a
      have b := ti_ne c3
      unfold iv at f2
      exact Int32.toInt_inj.mp (by omega)
    refine sf_if (fun _ => ?_) (fun c4 => ?_)
    · exact S_kp170 I2 f1 ⟨by decide, by decide⟩ (fun n => absurd f22 n)
    · have f38 : iv 0 60 (h 0 38) := iv_w (c := 0) (d := 60) (iv_lt (m := 59) g38 c4 rfl) rfl
      exact S_kp170 I2 f1 f38 (fun n => absurd f22 n)
theorem SX12_keep_ {z : zT} (a0 a1 a2 : Int32) (h : ph_H) (I : IM z h) : PX12_keep_ a0 a1 a2 h ∧ Qi z (-1) 0 (FX12_keep_ a0 a1 a2 h) := by
  have I0 : IM z (hs h 0 0 0) := IMa 0 0 I rfl rfl
  have N : True ∧ Qi z (-1) 0 ((-1 : Int32), hs h 0 0 0) := ⟨trivial, Qi_mk ⟨by decide, by decide⟩ I0⟩
  have s := SX12_isShelf a0
  unfold PX12_keep_ FX12_keep_
  refine sf_n s.1 (sf_if (fun _ => N) (fun c1 => sf_n isIn_p (sf_if (fun _ => N) (fun c2 => ?_))))
  have f0 : iv 0 7 a0 := s.2.2 c1
  have f1 : iv 0 3 a1 := isIn_iv (iv_any a1) (lw_lit (lo := 0) (hi := 0) (x := 0) rfl) (lw_lit (lo := 3) (hi := 3) (x := 3) rfl) c2 rfl
  have W : ∀ {o : Int32 × ph_H} {P : Prop}, P ∧ Qi z 0 0 o → P ∧ Qi z (-1) 0 o := fun w => ⟨w.1, iv_w w.2.1 rfl, w.2.2⟩
  have T : PX12_keep__35 a0 a1 a2 (hs h 0 0 0) ∧ Qi z (-1) 0 (FX12_keep__35 a0 a1 a2 (hs h 0 0 0)) := by
    unfold PX12_keep__35 FX12_keep__35
    have g38 : iv 0 300 (hs h 0 0 0 0 38) := IMv I0 0 38
    have g24 : iv 0 12 (hs h 0 0 0 24 ((hs h 0 0 0 0 38).toNatClampNeg)) := IMv I0 24 _
    refine sf_if (fun c => sf_n (iv_in g38 rfl) (sf_n isIn_p (sf_if (fun _ => N) (fun c3 => ?_)))) (fun c => ?_)
    · have f2 : iv 0 11 a2 := isIn_iv (iv_any a2) (lw_lit (lo := 0) (hi := 0) (x := 0) rfl) (lw_of (iv_sub (lo := -1) (hi := 11) g24 (iv_lit (lo := 1) (hi := 1) (x := 1) rfl) rfl)) c3 rfl
      exact W (S_kp63 I0 f0 f1 (fun _ => f2))
    · exact W (S_kp63 I0 f0 f1 (fun w => absurd w c))
  exact sf_if (fun _ => T) (fun _ => sf_if (fun _ => N) (fun _ => T))
theorem cp_ix {a b c : Int32} (fa : iv 0 7 a) (fb : iv 0 60 b) (fc : iv 0 60 c) (h : b.toInt + c.toInt < 60) : vp_in (((60 * a) + b) + c) 480 := by
  have h6 : (60 : Int32).toInt = 60 := by decide
  unfold iv at *
  have e1 : (60 * a).toInt = 60 * a.toInt := by rw [ti_mul, h6] <;> rw [h6] <;> omega
  have e2 : ((60 * a) + b).toInt = 60 * a.toInt + b.toInt := by rw [ti_add, e1] <;> rw [e1] <;> omega
  have e3 : (((60 * a) + b) + c).toInt = 60 * a.toInt + b.toInt + c.toInt := by rw [ti_add, e2] <;> rw [e2] <;> omega
  rw [vp_in_iff, e3]
  omega
theorem S_cp136 {z : zT} : ∀ (q : Nat) (x3 x4 x5 x6 : Int32) (h : ph_H), IM z h → iv 0 7 x3 → iv 0 60 x4 → iv 0 60 x5 → iv 0 60 x6 → x4.toInt + x5.toInt ≤ 60 → 60 - x6.toInt < (q : Int) → PX12_copy_136 q x3 x4 x5 x6 h ∧ Qi z (-2147483648) 2147483647 (FX12_copy_136 q x3 x4 x5 x6 h) := by
  intro q
  induction q with
  | zero =>
    intro x3 x4 x5 x6 h I f3 f4 f5 f6 r mq
    exact mu_zu f6 mq rfl
  | succ q ih =>
    intro x3 x4 x5 x6 h I f3 f4 f5 f6 r mq
    unfold PX12_copy_136 FX12_copy_136
    refine sf_if (fun _ => ⟨trivial, Qi_mk (iv_any _) I⟩) (fun c => ?_)
    have f7 : iv 0 59 x6 := iv_ltl f6 f5 (nle c) rfl
    have lt := nle c
    rw [Int32.lt_iff_toInt_lt] at lt
    exact sf_n (iv_in f7 rfl) (sf_n (cp_ix f3 f4 f6 (by omega)) (ih x3 x4 x5 (x6 + 1) _ (IMa 48 _ I rfl rfl) f3 f4 f5 (iv_w (iv_add (lo := 1) (hi := 60) f7 (iv_lit (lo := 1) (hi := 1) (x := 1) rfl) rfl) rfl) r (mu_up f7 mq rfl)))
theorem S_cp99 {z : zT} : ∀ (q : Nat) (x1 x2 x3 x4 x5 x6 : Int32) (h : ph_H), IM z h → iv 0 7 x1 → iv 0 60 x2 → iv 0 7 x3 → iv 0 60 x4 → iv 0 60 x5 → iv 0 60 x6 → x2.toInt + x5.toInt ≤ 60 → x4.toInt + x5.toInt ≤ 60 → 60 - x6.toInt < (q : Int) → PX12_copy_99 q x1 x2 x3 x4 x5 x6 h ∧ Qi z (-2147483648) 2147483647 (FX12_copy_99 q x1 x2 x3 x4 x5 x6 h) := by
  intro q
  induction q with
  | zero =>
    intro x1 x2 x3 x4 x5 x6 h I f1 f2 f3 f4 f5 f6 r1 r mq
    exact mu_zu f6 mq rfl
  | succ q ih =>
    intro x1 x2 x3 x4 x5 x6 h I f1 f2 f3 f4 f5 f6 r1 r mq
    unfold PX12_copy_99 FX12_copy_99
    refine sf_if (fun _ => S_cp136 2000 x3 x4 x5 0 h I f3 f4 f5 ⟨by decide, by decide⟩ r (by decide)) (fun c => ?_)
    have f7 : iv 0 59 x6 := iv_ltl f6 f5 (nle c) rfl
    have lt := nle c
    rw [Int32.lt_iff_toInt_lt] at lt
    exact sf_n (cp_ix f1 f2 f6 (by omega)) (sf_n (iv_in f7 rfl) (ih x1 x2 x3 x4 x5 (x6 + 1) _ (IMa 49 _ I rfl rfl) f1 f2 f3 f4 f5 (iv_w (iv_add (lo := 1) (hi := 60) f7 (iv_lit (lo := 1) (hi := 1) (x := 1) rfl) rfl) rfl) r1 r (mu_up f7 mq rfl)))
theorem hp_of {z : zT} {h : ph_H} {a0 a1 a2 : Int32} (I : IM z h) (c : ¬ FX12_hasPlaces a0 a1 a2 h = 0) : iv 0 60 a1 ∧ iv 0 60 a2 ∧ a1.toInt + a2.toInt ≤ 60 := by
  have g : iv 0 60 (h 45 (a0.toNatClampNeg)) := IMv I 45 _
  unfold FX12_hasPlaces at c
  have h0 : (0 : Int32).toInt = 0 := by decide
  by_cases c1 : a2 < 0
  · rw [if_pos c1] at c
    exact absurd rfl c
  · rw [if_neg c1] at c
    by_cases c2 : a1 < 0
    · rw [if_pos c2] at c
      exact absurd rfl c
    · rw [if_neg c2] at c
      by_cases c3 : h 45 (a0.toNatClampNeg) < a1
      · rw [if_pos c3] at c
        exact absurd rfl c
      · rw [if_neg c3] at c
        by_cases c4 : h 45 (a0.toNatClampNeg) - a1 < a2
        · rw [if_pos c4] at c
          exact absurd rfl c
        · rw [Int32.lt_iff_toInt_lt] at c1 c2 c3 c4
          unfold iv at *
          rw [ti_sub (by omega) (by omega)] at c4
          omega
theorem SX12_copy {z : zT} (a0 a1 a2 a3 a4 : Int32) (h : ph_H) (I : IM z h) : PX12_copy a0 a1 a2 a3 a4 h ∧ Qi z (-2147483648) 2147483647 (FX12_copy a0 a1 a2 a3 a4 h) := by
  have I0 : IM z (hs h 0 0 0) := IMa 0 0 I rfl rfl
  have N : ∀ v : Int32, True ∧ Qi z (-2147483648) 2147483647 (v, hs h 0 0 0) := fun v => ⟨trivial, Qi_mk (iv_any _) I0⟩
  have s := SX12_isShelf a0
  have s2 := SX12_isShelf a2
  unfold PX12_copy FX12_copy
  refine sf_n s.1 (sf_if (fun _ => N _) (fun c1 => sf_n s2.1 (sf_if (fun _ => N _) (fun c2 => ?_))))
  have f0 : iv 0 7 a0 := s.2.2 c1
  have f2 : iv 0 7 a2 := s2.2.2 c2
  have p1 := SX12_hasPlaces (z := z) a0 a1 a4 _ I0 f0
  have p2 := SX12_hasPlaces (z := z) a2 a3 a4 _ I0 f2
  refine sf_n (iv_in f0 rfl) (sf_if (fun _ => N _) (fun _ => sf_n (iv_in f2 rfl) (sf_if (fun _ => N _) (fun _ => sf_n (iv_in f0 rfl) (sf_if (fun _ => N _) (fun _ => sf_n (iv_in f0 rfl) (sf_n (iv_in f2 rfl) (sf_if (fun _ => sf_n p1.1 (sf_if (fun _ => N _) (fun c3 => sf_n p2.1 (sf_if (fun _ => N _) (fun c4 => ?_))))) (fun _ => N _)))))))))
  obtain ⟨q1, q2, q3⟩ := hp_of I0 c3
  obtain ⟨r1, r2, r3⟩ := hp_of I0 c4
  exact S_cp99 2000 a0 a1 a2 a3 a4 0 _ I0 f0 q1 f2 r1 q2 ⟨by decide, by decide⟩ q3 r3 (by decide)
