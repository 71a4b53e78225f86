/-! What the class's calls that tell a program answer: the same as the reference's, by many, inputs and turns. -/
def zmC (z z' : zT) : Prop := (∀ i, z' 2 i = z 1 i) ∧ z' 1 6 = z 0 7 ∧ z' 1 7 = z 0 9
def CT (z : zT) (h : ph_H) : Prop := ∃ z', zmC z z' ∧ IC z' h
def QCT (z : zT) (a b : Int) (o : Int32 × ph_H) : Prop := iv a b o.1 ∧ CT z o.2
def QZc (r : Int32) (z : zT) (o : Int32 × ph_H) : Prop := o.1 = r ∧ CT z o.2
theorem QZc_mk {r x : Int32} {z : zT} {h : ph_H} (e : x = r) (I : CT z h) : QZc r z (x, h) := ⟨e, I⟩
theorem toC {z : zT} {h : ph_H} {P : Prop} {a b : Int} {o : Int32 × ph_H} (I : CT z h) (S : ∀ z', IC z' h → P ∧ QC z' a b o) : P ∧ QCT z a b o := by
  obtain ⟨z', m, i⟩ := I
  have s := S z' i
  exact ⟨s.1, s.2.1, z', m, s.2.2⟩
theorem isT_no {x : Int32} (c : FX11_isThread x = 0) : ¬ in_ 0 3 x := by
  intro w
  have h0 : (0 : Int32).toInt = 0 := by decide
  have h4 : (4 : Int32).toInt = 4 := by decide
  unfold FX11_isThread at c
  unfold in_ at w
  rw [if_neg (by rw [Int32.lt_iff_toInt_lt]; omega), if_neg (by rw [Int32.le_iff_toInt_le]; omega)] at c
  exact absurd c (by decide)
theorem isC_no {x : Int32} (c : FX11_isCell x = 0) : ¬ in_ 0 11 x := by
  intro w
  have h0 : (0 : Int32).toInt = 0 := by decide
  have h4 : (12 : Int32).toInt = 12 := by decide
  unfold FX11_isCell at c
  unfold in_ at w
  rw [if_neg (by rw [Int32.lt_iff_toInt_lt]; omega), if_neg (by rw [Int32.le_iff_toInt_le]; omega)] at c
  exact absurd c (by decide)
theorem nlt_in {x y : Int32} {a b : Int} (h : ¬ in_ a b x → False) : in_ a b x := Classical.byContradiction h
theorem eq_top {b : Int} {x y : Int32} (f : iv 0 b x) (c : ¬ x < y) (q : decide (y.toInt = b) = true) : x = y := by
  simp only [decide_eq_true_eq] at q
  rw [Int32.lt_iff_toInt_lt] at c
  unfold iv at f
  exact Int32.toInt_inj.mp (by omega)
theorem ne_top {x y : Int32} (c : x < y) : ¬ x = y := fun e => by
  subst e
  rw [Int32.lt_iff_toInt_lt] at c
  omega
theorem zmC_2 {z z' : zT} {i : Nat} {v : Int32} (m : zmC z z') : zmC (hs z 1 i v) (hs z' 2 i v) := by
  refine ⟨fun j => ?_, ?_, ?_⟩
  · by_cases e : j = i
    · subst e
      rw [hz_e, hz_e]
    · rw [hs_o (fun w => e w.2), hs_o (fun w => e w.2)]
      exact m.1 j
  · rw [hz_k rfl, hz_k rfl]
    exact m.2.1
  · rw [hz_k rfl, hz_k rfl]
    exact m.2.2
theorem zmC_7 {z z' : zT} {v : Int32} (m : zmC z z') : zmC (hs z 0 7 v) (hs z' 1 6 v) := by
  refine ⟨fun j => ?_, ?_, ?_⟩
  · rw [hz_k rfl, hz_k rfl]
    exact m.1 j
  · rw [hz_e, hz_e]
  · rw [hz_i rfl, hz_i rfl]
    exact m.2.2
theorem zmC_9 {z z' : zT} {v : Int32} (m : zmC z z') : zmC (hs z 0 9 v) (hs z' 1 7 v) := by
  refine ⟨fun j => ?_, ?_, ?_⟩
  · rw [hz_k rfl, hz_k rfl]
    exact m.1 j
  · rw [hz_i rfl, hz_i rfl]
    exact m.2.1
  · rw [hz_e, hz_e]
set_option maxRecDepth 100000 in
theorem SX11_code {z : zT} (a0 a1 a2 a3 a4 : Int32) (h : ph_H) (I : CT z h) : PX11_code a0 a1 a2 a3 a4 h ∧ QZc (zcR z a0 a1) (zcZ z a0 a1) (FX11_code a0 a1 a2 a3 a4 h) := by
  have s := SX11_isThread a0
  have h0 : (0 : Int32).toInt = 0 := by decide
  have h19 : (19 : Int32).toInt = 19 := by decide
  unfold PX11_code FX11_code
  have no : ¬ (in_ 0 3 a0 ∧ in_ 0 19 a1) → True ∧ QZc (zcR z a0 a1) (zcZ z a0 a1) ((-1 : Int32), h) := fun n => by
    unfold zcR zcZ
    rw [if_neg n, if_neg n]
    exact ⟨trivial, QZc_mk rfl I⟩
  refine sf_n s.1 (sf_if (fun c => no (fun w => isT_no c w.1)) (fun c1 => sf_if (fun c => no (fun w => ?_)) (fun c2 => sf_if (fun c3 => ?_) (fun c => no (fun w => ?_)))))
  · rw [Int32.lt_iff_toInt_lt, h0] at c
    have := w.2.1
    omega
  · have f0 : iv 0 3 a0 := s.2.2 c1
    have y : in_ 0 3 a0 ∧ in_ 0 19 a1 := ⟨f0, by
      rw [Int32.lt_iff_toInt_lt, h0] at c2
      rw [Int32.le_iff_toInt_le, h19] at c3
      exact ⟨by omega, c3⟩⟩
    obtain ⟨z1, m, i⟩ := I
    have eh : h 2 (a0.toNatClampNeg) = z 1 (a0.toNatClampNeg) := (ICz i 2 _ rfl).trans (m.1 _)
    have g : iv 0 24 (h 2 (a0.toNatClampNeg)) := ICv i 2 _
    unfold zcR zcZ
    rw [if_pos y, if_pos y]
    refine sf_n (iv_in f0 rfl) (sf_if (fun c => ?_) (fun c => ?_))
    · have n : ¬ z 1 (a0.toNatClampNeg) = 24 := fun w => ne_top c (eh.trans w)
      rw [if_neg n, if_neg n]
      have g2 : iv 0 23 (h 2 (a0.toNatClampNeg)) := iv_ltl g (iv_lit (lo := 24) (hi := 24) (x := 24) rfl) c rfl
      have p := SX5_firstPart_n (z := z1) a0 (h 2 (a0.toNatClampNeg)) h i f0 g2
      have f3 : iv 0 24 ((h 2 (a0.toNatClampNeg)) + 1) := iv_w (c := 0) (d := 24) (iv_add (lo := 1) (hi := 24) g2 (iv_lit (lo := 1) (hi := 1) (x := 1) rfl) rfl) rfl
      have q1 : iv 1 381 (FX5_firstPart_n a0 (h 2 (a0.toNatClampNeg)) h + 1) := iv_add p.2 (iv_lit (lo := 1) (hi := 1) (x := 1) rfl) rfl
      have q2 : iv 2 382 (FX5_firstPart_n a0 (h 2 (a0.toNatClampNeg)) h + 2) := iv_add p.2 (iv_lit (lo := 2) (hi := 2) (x := 2) rfl) rfl
      have q3 : iv 3 383 (FX5_firstPart_n a0 (h 2 (a0.toNatClampNeg)) h + 3) := iv_add p.2 (iv_lit (lo := 3) (hi := 3) (x := 3) rfl) rfl
      refine sf_n p.1 (sf_n (iv_in p.2 rfl) (sf_n (iv_in q1 rfl) (sf_n (iv_in q2 rfl) (sf_n (iv_in q3 rfl) (sf_n (iv_in f0 rfl) ⟨trivial, QZc_mk eh ?_⟩)))))
      rw [← eh]
      exact ⟨_, zmC_2 m, ICg (k := 2) (ICa 3 _ (ICa 3 _ (ICa 3 _ (ICa 3 _ i rfl rfl) rfl rfl) rfl rfl) rfl rfl) (show iv 0 24 _ from f3) rfl⟩
    · have e := eq_top g c rfl
      rw [if_pos (eh.symm.trans e), if_pos (eh.symm.trans e)]
      exact ⟨trivial, QZc_mk rfl ⟨z1, m, i⟩⟩
  · rw [Int32.le_iff_toInt_le, h19] at c
    have := w.2.2
    omega
theorem SX11_clear {z : zT} (a0 : Int32) (h : ph_H) (I : CT z h) : PX11_clear a0 h ∧ QZc (zlR z a0) (zlZ z a0) (FX11_clear a0 h) := by
  have s := SX11_isThread a0
  unfold PX11_clear FX11_clear zlR zlZ
  refine sf_n s.1 (sf_if (fun c => ?_) (fun c1 => ?_))
  · have n : ¬ in_ 0 3 a0 := isT_no c
    rw [if_neg n, if_neg n]
    exact ⟨trivial, QZc_mk rfl I⟩
  · have f0 : iv 0 3 a0 := s.2.2 c1
    have y : in_ 0 3 a0 := f0
    rw [if_pos y, if_pos y]
    obtain ⟨z1, m, i⟩ := I
    have eh : h 2 (a0.toNatClampNeg) = z 1 (a0.toNatClampNeg) := (ICz i 2 _ rfl).trans (m.1 _)
    exact sf_n (iv_in f0 rfl) (sf_n (iv_in f0 rfl) ⟨trivial, QZc_mk eh ⟨_, zmC_2 m, ICg (k := 2) i (show iv 0 24 0 from ⟨by decide, by decide⟩) rfl⟩⟩)
theorem SX11_cell_T {z : zT} (a0 a1 : Int32) (h : ph_H) (I : CT z h) : PX11_cell a0 a1 h ∧ QZc (zeR a0) z (FX11_cell a0 a1 h) := by
  have s := SX11_isCell a0
  unfold PX11_cell FX11_cell zeR
  refine sf_n s.1 (sf_if (fun c => ?_) (fun c1 => ?_))
  · have n : ¬ in_ 0 11 a0 := isC_no c
    rw [if_neg n]
    exact ⟨trivial, QZc_mk rfl I⟩
  · have f0 : iv 0 11 a0 := s.2.2 c1
    have y : in_ 0 11 a0 := f0
    rw [if_pos y]
    obtain ⟨z1, m, i⟩ := I
    exact sf_n (iv_in f0 rfl) ⟨trivial, QZc_mk rfl ⟨z1, m, ICa 4 _ i rfl rfl⟩⟩
theorem SX11_input {z : zT} (a0 : Int32) (h : ph_H) (I : CT z h) : PX11_input a0 h ∧ QZc (ziR z) (ziZ z) (FX11_input a0 h) := by
  obtain ⟨z1, m, i⟩ := I
  have eh : h 1 6 = z 0 7 := (ICz i 1 6 rfl).trans m.2.1
  have g : iv 0 30 (h 1 6) := ICv i 1 6
  unfold PX11_input FX11_input ziR ziZ
  refine sf_if (fun c => ?_) (fun c => ?_)
  · have n : ¬ z 0 7 = 30 := fun w => ne_top c (eh.trans w)
    rw [if_neg n, if_neg n]
    have g2 : iv 0 29 (h 1 6) := iv_ltl g (iv_lit (lo := 30) (hi := 30) (x := 30) rfl) c rfl
    have f3 : iv 0 30 ((h 1 6) + 1) := iv_w (c := 0) (d := 30) (iv_add (lo := 1) (hi := 30) g2 (iv_lit (lo := 1) (hi := 1) (x := 1) rfl) rfl) rfl
    refine sf_n (iv_in g2 rfl) ⟨trivial, QZc_mk (by rw [eh]) ?_⟩
    rw [← eh]
    exact ⟨_, zmC_7 m, ICg (k := 1) (i := 6) (ICa 5 _ i rfl rfl) (show iv 0 30 _ from f3) rfl⟩
  · have e := eq_top g c rfl
    rw [if_pos (eh.symm.trans e), if_pos (eh.symm.trans e)]
    exact ⟨trivial, QZc_mk rfl ⟨z1, m, i⟩⟩
theorem SX11_turn {z : zT} (a0 a1 : Int32) (h : ph_H) (I : CT z h) : PX11_turn a0 a1 h ∧ QZc (ztR z a0 a1) (ztZ z a0 a1) (FX11_turn a0 a1 h) := by
  have s := SX11_isThread a0
  have h1 : (1 : Int32).toInt = 1 := by decide
  have h100 : (100 : Int32).toInt = 100 := by decide
  unfold PX11_turn FX11_turn
  have no : ¬ (in_ 0 3 a0 ∧ in_ 1 100 a1) → True ∧ QZc (ztR z a0 a1) (ztZ z a0 a1) ((-1 : Int32), h) := fun n => by
    unfold ztR ztZ
    rw [if_neg n, if_neg n]
    exact ⟨trivial, QZc_mk rfl I⟩
  refine sf_n s.1 (sf_if (fun c => no (fun w => isT_no c w.1)) (fun c1 => sf_if (fun c => no (fun w => ?_)) (fun c2 => sf_if (fun c3 => ?_) (fun c => no (fun w => ?_)))))
  · rw [Int32.lt_iff_toInt_lt, h1] at c
    have := w.2.1
    omega
  · have f0 : iv 0 3 a0 := s.2.2 c1
    have f1 : iv 1 100 a1 := by
      rw [Int32.lt_iff_toInt_lt, h1] at c2
      rw [Int32.le_iff_toInt_le, h100] at c3
      exact ⟨by omega, c3⟩
    have y : in_ 0 3 a0 ∧ in_ 1 100 a1 := ⟨f0, f1⟩
    obtain ⟨z1, m, i⟩ := I
    have eh : h 1 7 = z 0 9 := (ICz i 1 7 rfl).trans m.2.2
    have g : iv 0 40 (h 1 7) := ICv i 1 7
    unfold ztR ztZ
    rw [if_pos y, if_pos y]
    refine sf_if (fun c => ?_) (fun c => ?_)
    · have n : ¬ z 0 9 = 40 := fun w => ne_top c (eh.trans w)
      rw [if_neg n, if_neg n]
      have g2 : iv 0 39 (h 1 7) := iv_ltl g (iv_lit (lo := 40) (hi := 40) (x := 40) rfl) c rfl
      have f3 : iv 0 40 ((h 1 7) + 1) := iv_w (c := 0) (d := 40) (iv_add (lo := 1) (hi := 40) g2 (iv_lit (lo := 1) (hi := 1) (x := 1) rfl) rfl) rfl
      refine sf_n (iv_in g2 rfl) (sf_n (iv_in g2 rfl) ⟨trivial, QZc_mk (by rw [eh]) ?_⟩)
      rw [← eh]
      exact ⟨_, zmC_9 m, ICg (k := 1) (i := 7) (ICs (k := 7) (ICs (k := 6) i (show iv 0 3 a0 from f0) rfl) (show iv 0 100 a1 from iv_w f1 rfl) rfl) (show iv 0 40 _ from f3) rfl⟩
    · have e := eq_top g c rfl
      rw [if_pos (eh.symm.trans e), if_pos (eh.symm.trans e)]
      exact ⟨trivial, QZc_mk rfl ⟨z1, m, i⟩⟩
  · rw [Int32.le_iff_toInt_le, h100] at c
    have := w.2.2
    omega
theorem SX11_freely {z : zT} (h : ph_H) (I : CT z h) : PX11_freely h ∧ QZc (z 0 9) (zfZ z) (FX11_freely h) := by
  obtain ⟨z1, m, i⟩ := I
  exact ⟨trivial, QZc_mk ((ICz i 1 7 rfl).trans m.2.2) ⟨_, zmC_9 m, ICg (k := 1) (i := 7) i (show iv 0 40 0 from ⟨by decide, by decide⟩) rfl⟩⟩
