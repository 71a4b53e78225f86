/-! FRAMES: what a method doesn't write -/
def EQ (W : Nat → Nat → Bool) (h0 h : ph_H) : Prop := ∀ k i, W k i = true → h k i = h0 k i
theorem EQ_r {W : Nat → Nat → Bool} (h : ph_H) : EQ W h h := fun _ _ _ => rfl
theorem EQ_s {W : Nat → Nat → Bool} {h0 h : ph_H} {k i : Nat} {v : Int32} (q : W k i = false) (e : EQ W h0 h) : EQ W h0 (hs h k i v) := fun k' i' w => by
  rw [hs_o (fun c => by rw [c.1, c.2, q] at w; exact absurd w (by decide))]
  exact e k' i' w
theorem EQ_c {W : Nat → Nat → Bool} {h0 h : ph_H} {k0 k1 : Nat} {sp dp m : Int32} (q : ∀ i, W k1 i = false) (e : EQ W h0 h) : EQ W h0 (hc h k0 k1 sp dp m) := fun k' i' w => by
  rw [hc_o (fun c => by rw [c, q] at w; exact absurd w (by decide))]
  exact e k' i' w
theorem EQ_if {W : Nat → Nat → Bool} {h0 a b : ph_H} {c : Prop} [Decidable c] (x : EQ W h0 a) (y : EQ W h0 b) : EQ W h0 (if c then a else b) := by
  split
  · exact x
  · exact y
theorem EQ2_if {W : Nat → Nat → Bool} {h0 : ph_H} {a b : Int32 × ph_H} {c : Prop} [Decidable c] (x : EQ W h0 a.2) (y : EQ W h0 b.2) : EQ W h0 (if c then a else b).2 := by
  split
  · exact x
  · exact y
def pS (k i : Nat) : Bool := match k with
  | 0 => !(i == 18 || (23 ≤ i && i ≤ 32) || i == 35)
  | 10 => false
  | 11 => false
  | 12 => false
  | 13 => false
  | 14 => false
  | 15 => false
  | 16 => false
  | 17 => false
  | 18 => false
  | 19 => false
  | _ => true
theorem frS_FX12_goTo_19 {h0 : ph_H} (s0 : Int32) (h : ph_H) (e : EQ pS h0 h) : EQ pS h0 (FX12_goTo_19 s0 h) := (EQ_s rfl e)
theorem frS_FX12_goTo {h0 : ph_H} (a0 : Int32) (a1 : Int32) (h : ph_H) (e : EQ pS h0 h) : EQ pS h0 (FX12_goTo a0 a1 h) := (EQ_if (frS_FX12_goTo_19 _  _ e) (EQ_if (EQ_s rfl e) (frS_FX12_goTo_19 _  _ e)))
theorem frS_FX12_set {h0 : ph_H} (a0 : Int32) (a1 : Int32) (a2 : Int32) (h : ph_H) (e : EQ pS h0 h) : EQ pS h0 (FX12_set a0 a1 a2 h) := (EQ_s rfl (EQ_s rfl e))
theorem frS_FX12_newThing_29 {h0 : ph_H}  : ∀ (q : Nat) (y0 : Int32) (y1 : Int32) (h : ph_H), EQ pS h0 h → EQ pS h0 (FX12_newThing_29  q y0 y1 h).2 := by
  intro q
  induction q with
  | zero =>
    intro y0 y1 h e
    exact e
  | succ q ih =>
    intro y0 y1 h e
    exact (EQ2_if (EQ_s rfl e) (ih _ _ _ (EQ_s rfl e)))
theorem frS_FX12_newThing {h0 : ph_H} (a0 : Int32) (a1 : Int32) (h : ph_H) (e : EQ pS h0 h) : EQ pS h0 (FX12_newThing a0 a1 h).2 := (frS_FX12_newThing_29   _ _ _ _ (EQ_s rfl (EQ_s rfl (EQ_s rfl e))))
theorem frS_FX12_work_88 {h0 : ph_H}  (h : ph_H) (e : EQ pS h0 h) : EQ pS h0 (FX12_work_88 h) := e
theorem frS_FX12_work_111 {h0 : ph_H}  (h : ph_H) (e : EQ pS h0 h) : EQ pS h0 (FX12_work_111 h) := e
theorem frS_FX12_work_134 {h0 : ph_H}  (h : ph_H) (e : EQ pS h0 h) : EQ pS h0 (FX12_work_134 h) := e
theorem frS_FX12_work_155 {h0 : ph_H}  (h : ph_H) (e : EQ pS h0 h) : EQ pS h0 (FX12_work_155 h) := e
theorem frS_FX12_work_152 {h0 : ph_H} (s0 : Int32) (s1 : Int32) (s2 : Int32) (h : ph_H) (e : EQ pS h0 h) : EQ pS h0 (FX12_work_152 s0 s1 s2 h) := (frS_FX12_work_155   _ (frS_FX12_set _ _ _  _ e))
theorem frS_FX12_work_212 {h0 : ph_H}  (h : ph_H) (e : EQ pS h0 h) : EQ pS h0 (FX12_work_212 h) := e
theorem frS_FX12_work_435 {h0 : ph_H} (L391 : Int32 → Int32 → ph_H → ph_H) (x3 : Int32) (x6 : Int32) (hL391 : ∀ (y0 : Int32) (y1 : Int32) (h : ph_H), EQ pS h0 h → EQ pS h0 (L391 y0 y1 h)) (h : ph_H) (e : EQ pS h0 h) : EQ pS h0 (FX12_work_435 L391 x3 x6 h) := (hL391 _ _ _ e)
theorem frS_FX12_work_391 {h0 : ph_H}  : ∀ (q : Nat) (y0 : Int32) (y1 : Int32) (h : ph_H), EQ pS h0 h → EQ pS h0 (FX12_work_391  q y0 y1 h) := by
  intro q
  induction q with
  | zero =>
    intro y0 y1 h e
    exact e
  | succ q ih =>
    intro y0 y1 h e
    exact (EQ_if e (EQ_if (frS_FX12_work_435 _ _ _ ih _ (EQ_s rfl (EQ_s rfl e))) (frS_FX12_work_435 _ _ _ ih _ e)))
theorem frS_FX12_work {h0 : ph_H} (a0 : Int32) (a1 : Int32) (a2 : Int32) (a3 : Int32) (a4 : Int32) (h : ph_H) (e : EQ pS h0 h) : EQ pS h0 (FX12_work a0 a1 a2 a3 a4 h) := (EQ_if (frS_FX12_work_88   _ (frS_FX12_set _ _ _  _ e)) (EQ_if (frS_FX12_work_111   _ (frS_FX12_set _ _ _  _ e)) (EQ_if (frS_FX12_work_134   _ (frS_FX12_set _ _ _  _ e)) (EQ_if e (EQ_if e (EQ_if (frS_FX12_work_152 _ _ _  _ (frS_FX12_newThing _ _  _ e)) (EQ_if (frS_FX12_work_212   _ (frS_FX12_set _ _ _  _ (EQ_s rfl e))) (EQ_if (EQ_s rfl (EQ_s rfl e)) (EQ_if e (EQ_if (EQ_s rfl (EQ_s rfl (EQ_s rfl e))) (EQ_if (EQ_s rfl (EQ_s rfl (EQ_s rfl e))) (EQ_if (EQ_s rfl (EQ_s rfl (EQ_s rfl (EQ_s rfl e)))) (EQ_if (frS_FX12_work_391   _ _ _ _ (EQ_s rfl (EQ_s rfl e))) e)))))))))))))
theorem frS_FX12_workPlain_116 {h0 : ph_H}  (h : ph_H) (e : EQ pS h0 h) : EQ pS h0 (FX12_workPlain_116 h) := e
theorem frS_FX12_workPlain_153 {h0 : ph_H}  (h : ph_H) (e : EQ pS h0 h) : EQ pS h0 (FX12_workPlain_153 h) := e
theorem frS_FX12_workPlain_191 {h0 : ph_H}  (h : ph_H) (e : EQ pS h0 h) : EQ pS h0 (FX12_workPlain_191 h) := e
theorem frS_FX12_workPlain_222 {h0 : ph_H}  (h : ph_H) (e : EQ pS h0 h) : EQ pS h0 (FX12_workPlain_222 h) := e
theorem frS_FX12_workPlain_219 {h0 : ph_H} (s0 : Int32) (s1 : Int32) (s2 : Int32) (h : ph_H) (e : EQ pS h0 h) : EQ pS h0 (FX12_workPlain_219 s0 s1 s2 h) := (frS_FX12_workPlain_222   _ (frS_FX12_set _ _ _  _ e))
theorem frS_FX12_workPlain_206 {h0 : ph_H} (x3 : Int32) (s0 : Int32) (h : ph_H) (e : EQ pS h0 h) : EQ pS h0 (FX12_workPlain_206 x3 s0 h) := (frS_FX12_workPlain_219 _ _ _  _ (frS_FX12_newThing _ _  _ e))
theorem frS_FX12_workPlain_259 {h0 : ph_H}  (h : ph_H) (e : EQ pS h0 h) : EQ pS h0 (FX12_workPlain_259 h) := (EQ_s rfl e)
theorem frS_FX12_workPlain_256 {h0 : ph_H} (s0 : Int32) (s1 : Int32) (s2 : Int32) (h : ph_H) (e : EQ pS h0 h) : EQ pS h0 (FX12_workPlain_256 s0 s1 s2 h) := (frS_FX12_workPlain_259   _ (frS_FX12_set _ _ _  _ e))
theorem frS_FX12_workPlain {h0 : ph_H} (a0 : Int32) (a1 : Int32) (a2 : Int32) (a3 : Int32) (h : ph_H) (e : EQ pS h0 h) : EQ pS h0 (FX12_workPlain a0 a1 a2 a3 h) := (EQ_if (frS_FX12_workPlain_116   _ (frS_FX12_set _ _ _  _ e)) (EQ_if (frS_FX12_workPlain_153   _ (frS_FX12_set _ _ _  _ (EQ_s rfl e))) (EQ_if (frS_FX12_workPlain_191   _ (frS_FX12_set _ _ _  _ (EQ_s rfl e))) (EQ_if e (EQ_if e (EQ_if e (EQ_if e (EQ_if e (EQ_if e (EQ_if e (EQ_if e (EQ_if (EQ_if (frS_FX12_workPlain_206 _ _  _ e) (frS_FX12_workPlain_206 _ _  _ e)) (EQ_if e (EQ_if e (EQ_if e (EQ_if e (EQ_if (EQ_if (frS_FX12_workPlain_256 _ _ _  _ e) (frS_FX12_workPlain_256 _ _ _  _ e)) (EQ_if (EQ_s rfl (EQ_s rfl (EQ_s rfl e))) e))))))))))))))))))
theorem frS_FX12_instruct_251 {h0 : ph_H} (s0 : Int32) (s1 : Int32) (h : ph_H) (e : EQ pS h0 h) : EQ pS h0 (FX12_instruct_251 s0 s1 h) := (frS_FX12_goTo _ _  _ e)
theorem frS_FX12_instruct_204 {h0 : ph_H} (x1 : Int32) (x2 : Int32) (x6 : Int32) (x7 : Int32) (h : ph_H) (e : EQ pS h0 h) : EQ pS h0 (FX12_instruct_204 x1 x2 x6 x7 h) := (EQ_if e (EQ_if (frS_FX12_instruct_251 _ _  _ e) (EQ_if (frS_FX12_instruct_251 _ _  _ e) (frS_FX12_instruct_251 _ _  _ e))))
theorem frS_FX12_instruct_195 {h0 : ph_H} (x1 : Int32) (x2 : Int32) (x3 : Int32) (x4 : Int32) (x6 : Int32) (x7 : Int32) (h : ph_H) (e : EQ pS h0 h) : EQ pS h0 (FX12_instruct_195 x1 x2 x3 x4 x6 x7 h) := (frS_FX12_instruct_204 _ _ _ _  _ (frS_FX12_workPlain _ _ _ _  _ e))
theorem frS_FX12_instruct_177 {h0 : ph_H} (x1 : Int32) (x2 : Int32) (x3 : Int32) (x4 : Int32) (x5 : Int32) (x6 : Int32) (s0 : Int32) (h : ph_H) (e : EQ pS h0 h) : EQ pS h0 (FX12_instruct_177 x1 x2 x3 x4 x5 x6 s0 h) := (frS_FX12_instruct_195 _ _ _ _ _ _  _ (frS_FX12_work _ _ _ _ _  _ e))
theorem frS_FX12_instruct_149 {h0 : ph_H} (x1 : Int32) (x2 : Int32) (x3 : Int32) (x4 : Int32) (x5 : Int32) (s0 : Int32) (h : ph_H) (e : EQ pS h0 h) : EQ pS h0 (FX12_instruct_149 x1 x2 x3 x4 x5 s0 h) := (EQ_if (frS_FX12_instruct_177 _ _ _ _ _ _ _  _ e) (frS_FX12_instruct_177 _ _ _ _ _ _ _  _ e))
theorem frS_FX12_instruct_144 {h0 : ph_H} (x1 : Int32) (x2 : Int32) (x3 : Int32) (x4 : Int32) (x5 : Int32) (h : ph_H) (e : EQ pS h0 h) : EQ pS h0 (FX12_instruct_144 x1 x2 x3 x4 x5 h) := (frS_FX12_instruct_149 _ _ _ _ _ _  _ e)
theorem frS_FX12_instruct_148 {h0 : ph_H} (x1 : Int32) (x2 : Int32) (x3 : Int32) (x4 : Int32) (x5 : Int32) (h : ph_H) (e : EQ pS h0 h) : EQ pS h0 (FX12_instruct_148 x1 x2 x3 x4 x5 h) := (frS_FX12_instruct_149 _ _ _ _ _ _  _ e)
theorem frS_FX12_instruct_102 {h0 : ph_H} (x1 : Int32) (x2 : Int32) (x3 : Int32) (x4 : Int32) (x5 : Int32) (s0 : Int32) (h : ph_H) (e : EQ pS h0 h) : EQ pS h0 (FX12_instruct_102 x1 x2 x3 x4 x5 s0 h) := (EQ_if (EQ_if (frS_FX12_instruct_144 _ _ _ _ _  _ (EQ_s rfl e)) (EQ_if (EQ_if (frS_FX12_instruct_144 _ _ _ _ _  _ (EQ_s rfl e)) (frS_FX12_instruct_148 _ _ _ _ _  _ (EQ_s rfl e))) (frS_FX12_instruct_148 _ _ _ _ _  _ (EQ_s rfl e)))) (EQ_s rfl e))
theorem frS_FX12_instruct_98 {h0 : ph_H} (x1 : Int32) (x2 : Int32) (x3 : Int32) (x4 : Int32) (x5 : Int32) (h : ph_H) (e : EQ pS h0 h) : EQ pS h0 (FX12_instruct_98 x1 x2 x3 x4 x5 h) := (frS_FX12_instruct_102 _ _ _ _ _ _  _ e)
theorem frS_FX12_instruct {h0 : ph_H} (a0 : Int32) (a1 : Int32) (h : ph_H) (e : EQ pS h0 h) : EQ pS h0 (FX12_instruct a0 a1 h) := (EQ_if (EQ_if (frS_FX12_instruct_98 _ _ _ _ _  _ (EQ_s rfl e)) (frS_FX12_instruct_102 _ _ _ _ _ _  _ (EQ_s rfl e))) (frS_FX12_instruct_98 _ _ _ _ _  _ (EQ_s rfl e)))
theorem frS_FX12_step_154 {h0 : ph_H} (x1 : Int32) (h : ph_H) (e : EQ pS h0 h) : EQ pS h0 (FX12_step_154 x1 h) := (EQ_s rfl (EQ_s rfl e))
theorem frS_FX12_step_110 {h0 : ph_H} (x1 : Int32) (h : ph_H) (e : EQ pS h0 h) : EQ pS h0 (FX12_step_110 x1 h) := (frS_FX12_step_154 _  _ e)
theorem frS_FX12_step_148 {h0 : ph_H} (x1 : Int32) (x2 : Int32) (h : ph_H) (e : EQ pS h0 h) : EQ pS h0 (FX12_step_148 x1 x2 h) := (frS_FX12_step_154 _  _ (frS_FX12_instruct _ _  _ e))
theorem frS_FX12_step {h0 : ph_H} (a0 : Int32) (h : ph_H) (e : EQ pS h0 h) : EQ pS h0 (FX12_step a0 h) := (EQ_if (EQ_if (EQ_if (frS_FX12_step_148 _ _  _ (EQ_s rfl (EQ_s rfl (EQ_s rfl (EQ_s rfl (EQ_s rfl (EQ_s rfl e))))))) (EQ_if (EQ_s rfl (EQ_s rfl (EQ_s rfl (EQ_s rfl (EQ_s rfl (EQ_s rfl (EQ_s rfl e))))))) (frS_FX12_step_148 _ _  _ (EQ_s rfl (EQ_s rfl (EQ_s rfl (EQ_s rfl (EQ_s rfl (EQ_s rfl e))))))))) (frS_FX12_step_148 _ _  _ (EQ_s rfl (EQ_s rfl (EQ_s rfl (EQ_s rfl (EQ_s rfl (EQ_s rfl e)))))))) (frS_FX12_step_110 _  _ (frS_FX12_goTo _ _  _ (EQ_s rfl (EQ_s rfl (EQ_s rfl (EQ_s rfl (EQ_s rfl (EQ_s rfl (EQ_s rfl (EQ_s rfl (EQ_s rfl (EQ_s rfl e)))))))))))))
def pK (k i : Nat) : Bool := match k with
  | 20 => false
  | 21 => false
  | 22 => false
  | 23 => false
  | 24 => false
  | 25 => false
  | 26 => false
  | 27 => false
  | 28 => false
  | _ => true
theorem frK_FX12_keep_171 {h0 : ph_H}  : ∀ (q : Nat) (y0 : Int32) (y1 : Int32) (h : ph_H), EQ pK h0 h → EQ pK h0 (FX12_keep_171  q y0 y1 h) := by
  intro q
  induction q with
  | zero =>
    intro y0 y1 h e
    exact e
  | succ q ih =>
    intro y0 y1 h e
    exact (EQ_if e (ih _ _ _ (EQ_s rfl e)))
theorem frK_FX12_keep_104 {h0 : ph_H}  : ∀ (q : Nat) (y0 : Int32) (y1 : Int32) (h : ph_H), EQ pK h0 h → EQ pK h0 (FX12_keep_104  q y0 y1 h) := by
  intro q
  induction q with
  | zero =>
    intro y0 y1 h e
    exact e
  | succ q ih =>
    intro y0 y1 h e
    exact (EQ_if (frK_FX12_keep_171   _ _ _ _ e) (ih _ _ _ (EQ_s rfl (EQ_s rfl (EQ_s rfl e)))))
theorem frK_FX12_keep_50 {h0 : ph_H}  : ∀ (q : Nat) (y0 : Int32) (y1 : Int32) (h : ph_H), EQ pK h0 h → EQ pK h0 (FX12_keep_50  q y0 y1 h) := by
  intro q
  induction q with
  | zero =>
    intro y0 y1 h e
    exact e
  | succ q ih =>
    intro y0 y1 h e
    exact (EQ_if (frK_FX12_keep_104   _ _ _ _ (EQ_s rfl e)) (ih _ _ _ (EQ_s rfl (EQ_s rfl e))))
theorem frK_FX12_keep_2 {h0 : ph_H}  : ∀ (q : Nat) (y0 : Int32) (y1 : Int32) (h : ph_H), EQ pK h0 h → EQ pK h0 (FX12_keep_2  q y0 y1 h) := by
  intro q
  induction q with
  | zero =>
    intro y0 y1 h e
    exact e
  | succ q ih =>
    intro y0 y1 h e
    exact (EQ_if (frK_FX12_keep_50   _ _ _ _ e) (ih _ _ _ (EQ_s rfl (EQ_s rfl e))))
theorem frK_FX12_keep {h0 : ph_H} (a0 : Int32) (h : ph_H) (e : EQ pK h0 h) : EQ pK h0 (FX12_keep a0 h) := (frK_FX12_keep_2   _ _ _ _ e)
def pK5 (k i : Nat) : Bool := match k with
  | 22 => false
  | 23 => false
  | 24 => false
  | 25 => false
  | 26 => false
  | 27 => false
  | 28 => false
  | _ => true
theorem fr5_FX12_keep_171 {h0 : ph_H}  : ∀ (q : Nat) (y0 : Int32) (y1 : Int32) (h : ph_H), EQ pK5 h0 h → EQ pK5 h0 (FX12_keep_171  q y0 y1 h) := by
  intro q
  induction q with
  | zero =>
    intro y0 y1 h e
    exact e
  | succ q ih =>
    intro y0 y1 h e
    exact (EQ_if e (ih _ _ _ (EQ_s rfl e)))
theorem fr5_FX12_keep_104 {h0 : ph_H}  : ∀ (q : Nat) (y0 : Int32) (y1 : Int32) (h : ph_H), EQ pK5 h0 h → EQ pK5 h0 (FX12_keep_104  q y0 y1 h) := by
  intro q
  induction q with
  | zero =>
    intro y0 y1 h e
    exact e
  | succ q ih =>
    intro y0 y1 h e
    exact (EQ_if (fr5_FX12_keep_171   _ _ _ _ e) (ih _ _ _ (EQ_s rfl (EQ_s rfl (EQ_s rfl e)))))
theorem fr5_FX12_keep_50 {h0 : ph_H}  : ∀ (q : Nat) (y0 : Int32) (y1 : Int32) (h : ph_H), EQ pK5 h0 h → EQ pK5 h0 (FX12_keep_50  q y0 y1 h) := by
  intro q
  induction q with
  | zero =>
    intro y0 y1 h e
    exact e
  | succ q ih =>
    intro y0 y1 h e
    exact (EQ_if (fr5_FX12_keep_104   _ _ _ _ (EQ_s rfl e)) (ih _ _ _ (EQ_s rfl (EQ_s rfl e))))
def pI (k i : Nat) : Bool := match k with
  | 0 => !(i == 18 || i == 23 || i == 25 || (29 ≤ i && i ≤ 32))
  | 10 => false
  | 11 => false
  | 12 => false
  | 13 => false
  | 14 => false
  | 15 => false
  | 16 => false
  | 17 => false
  | 18 => false
  | 19 => false
  | _ => true
theorem frI_FX12_goTo_19 {h0 : ph_H} (s0 : Int32) (h : ph_H) (e : EQ pI h0 h) : EQ pI h0 (FX12_goTo_19 s0 h) := (EQ_s rfl e)
theorem frI_FX12_goTo {h0 : ph_H} (a0 : Int32) (a1 : Int32) (h : ph_H) (e : EQ pI h0 h) : EQ pI h0 (FX12_goTo a0 a1 h) := (EQ_if (frI_FX12_goTo_19 _  _ e) (EQ_if (EQ_s rfl e) (frI_FX12_goTo_19 _  _ e)))
theorem frI_FX12_set {h0 : ph_H} (a0 : Int32) (a1 : Int32) (a2 : Int32) (h : ph_H) (e : EQ pI h0 h) : EQ pI h0 (FX12_set a0 a1 a2 h) := (EQ_s rfl (EQ_s rfl e))
theorem frI_FX12_newThing_29 {h0 : ph_H}  : ∀ (q : Nat) (y0 : Int32) (y1 : Int32) (h : ph_H), EQ pI h0 h → EQ pI h0 (FX12_newThing_29  q y0 y1 h).2 := by
  intro q
  induction q with
  | zero =>
    intro y0 y1 h e
    exact e
  | succ q ih =>
    intro y0 y1 h e
    exact (EQ2_if (EQ_s rfl e) (ih _ _ _ (EQ_s rfl e)))
theorem frI_FX12_newThing {h0 : ph_H} (a0 : Int32) (a1 : Int32) (h : ph_H) (e : EQ pI h0 h) : EQ pI h0 (FX12_newThing a0 a1 h).2 := (frI_FX12_newThing_29   _ _ _ _ (EQ_s rfl (EQ_s rfl (EQ_s rfl e))))
theorem frI_FX12_work_88 {h0 : ph_H}  (h : ph_H) (e : EQ pI h0 h) : EQ pI h0 (FX12_work_88 h) := e
theorem frI_FX12_work_111 {h0 : ph_H}  (h : ph_H) (e : EQ pI h0 h) : EQ pI h0 (FX12_work_111 h) := e
theorem frI_FX12_work_134 {h0 : ph_H}  (h : ph_H) (e : EQ pI h0 h) : EQ pI h0 (FX12_work_134 h) := e
theorem frI_FX12_work_155 {h0 : ph_H}  (h : ph_H) (e : EQ pI h0 h) : EQ pI h0 (FX12_work_155 h) := e
theorem frI_FX12_work_152 {h0 : ph_H} (s0 : Int32) (s1 : Int32) (s2 : Int32) (h : ph_H) (e : EQ pI h0 h) : EQ pI h0 (FX12_work_152 s0 s1 s2 h) := (frI_FX12_work_155   _ (frI_FX12_set _ _ _  _ e))
theorem frI_FX12_work_212 {h0 : ph_H}  (h : ph_H) (e : EQ pI h0 h) : EQ pI h0 (FX12_work_212 h) := e
theorem frI_FX12_work_435 {h0 : ph_H} (L391 : Int32 → Int32 → ph_H → ph_H) (x3 : Int32) (x6 : Int32) (hL391 : ∀ (y0 : Int32) (y1 : Int32) (h : ph_H), EQ pI h0 h → EQ pI h0 (L391 y0 y1 h)) (h : ph_H) (e : EQ pI h0 h) : EQ pI h0 (FX12_work_435 L391 x3 x6 h) := (hL391 _ _ _ e)
theorem frI_FX12_work_391 {h0 : ph_H}  : ∀ (q : Nat) (y0 : Int32) (y1 : Int32) (h : ph_H), EQ pI h0 h → EQ pI h0 (FX12_work_391  q y0 y1 h) := by
  intro q
  induction q with
  | zero =>
    intro y0 y1 h e
    exact e
  | succ q ih =>
    intro y0 y1 h e
    exact (EQ_if e (EQ_if (frI_FX12_work_435 _ _ _ ih _ (EQ_s rfl (EQ_s rfl e))) (frI_FX12_work_435 _ _ _ ih _ e)))
theorem frI_FX12_work {h0 : ph_H} (a0 : Int32) (a1 : Int32) (a2 : Int32) (a3 : Int32) (a4 : Int32) (h : ph_H) (e : EQ pI h0 h) : EQ pI h0 (FX12_work a0 a1 a2 a3 a4 h) := (EQ_if (frI_FX12_work_88   _ (frI_FX12_set _ _ _  _ e)) (EQ_if (frI_FX12_work_111   _ (frI_FX12_set _ _ _  _ e)) (EQ_if (frI_FX12_work_134   _ (frI_FX12_set _ _ _  _ e)) (EQ_if e (EQ_if e (EQ_if (frI_FX12_work_152 _ _ _  _ (frI_FX12_newThing _ _  _ e)) (EQ_if (frI_FX12_work_212   _ (frI_FX12_set _ _ _  _ (EQ_s rfl e))) (EQ_if (EQ_s rfl (EQ_s rfl e)) (EQ_if e (EQ_if (EQ_s rfl (EQ_s rfl (EQ_s rfl e))) (EQ_if (EQ_s rfl (EQ_s rfl (EQ_s rfl e))) (EQ_if (EQ_s rfl (EQ_s rfl (EQ_s rfl (EQ_s rfl e)))) (EQ_if (frI_FX12_work_391   _ _ _ _ (EQ_s rfl (EQ_s rfl e))) e)))))))))))))
theorem frI_FX12_workPlain_116 {h0 : ph_H}  (h : ph_H) (e : EQ pI h0 h) : EQ pI h0 (FX12_workPlain_116 h) := e
theorem frI_FX12_workPlain_153 {h0 : ph_H}  (h : ph_H) (e : EQ pI h0 h) : EQ pI h0 (FX12_workPlain_153 h) := e
theorem frI_FX12_workPlain_191 {h0 : ph_H}  (h : ph_H) (e : EQ pI h0 h) : EQ pI h0 (FX12_workPlain_191 h) := e
theorem frI_FX12_workPlain_222 {h0 : ph_H}  (h : ph_H) (e : EQ pI h0 h) : EQ pI h0 (FX12_workPlain_222 h) := e
theorem frI_FX12_workPlain_219 {h0 : ph_H} (s0 : Int32) (s1 : Int32) (s2 : Int32) (h : ph_H) (e : EQ pI h0 h) : EQ pI h0 (FX12_workPlain_219 s0 s1 s2 h) := (frI_FX12_workPlain_222   _ (frI_FX12_set _ _ _  _ e))
theorem frI_FX12_workPlain_206 {h0 : ph_H} (x3 : Int32) (s0 : Int32) (h : ph_H) (e : EQ pI h0 h) : EQ pI h0 (FX12_workPlain_206 x3 s0 h) := (frI_FX12_workPlain_219 _ _ _  _ (frI_FX12_newThing _ _  _ e))
theorem frI_FX12_workPlain_259 {h0 : ph_H}  (h : ph_H) (e : EQ pI h0 h) : EQ pI h0 (FX12_workPlain_259 h) := (EQ_s rfl e)
theorem frI_FX12_workPlain_256 {h0 : ph_H} (s0 : Int32) (s1 : Int32) (s2 : Int32) (h : ph_H) (e : EQ pI h0 h) : EQ pI h0 (FX12_workPlain_256 s0 s1 s2 h) := (frI_FX12_workPlain_259   _ (frI_FX12_set _ _ _  _ e))
theorem frI_FX12_workPlain {h0 : ph_H} (a0 : Int32) (a1 : Int32) (a2 : Int32) (a3 : Int32) (h : ph_H) (e : EQ pI h0 h) : EQ pI h0 (FX12_workPlain a0 a1 a2 a3 h) := (EQ_if (frI_FX12_workPlain_116   _ (frI_FX12_set _ _ _  _ e)) (EQ_if (frI_FX12_workPlain_153   _ (frI_FX12_set _ _ _  _ (EQ_s rfl e))) (EQ_if (frI_FX12_workPlain_191   _ (frI_FX12_set _ _ _  _ (EQ_s rfl e))) (EQ_if e (EQ_if e (EQ_if e (EQ_if e (EQ_if e (EQ_if e (EQ_if e (EQ_if e (EQ_if (EQ_if (frI_FX12_workPlain_206 _ _  _ e) (frI_FX12_workPlain_206 _ _  _ e)) (EQ_if e (EQ_if e (EQ_if e (EQ_if e (EQ_if (EQ_if (frI_FX12_workPlain_256 _ _ _  _ e) (frI_FX12_workPlain_256 _ _ _  _ e)) (EQ_if (EQ_s rfl (EQ_s rfl (EQ_s rfl e))) e))))))))))))))))))
theorem frI_FX12_instruct_251 {h0 : ph_H} (s0 : Int32) (s1 : Int32) (h : ph_H) (e : EQ pI h0 h) : EQ pI h0 (FX12_instruct_251 s0 s1 h) := (frI_FX12_goTo _ _  _ e)
theorem frI_FX12_instruct_204 {h0 : ph_H} (x1 : Int32) (x2 : Int32) (x6 : Int32) (x7 : Int32) (h : ph_H) (e : EQ pI h0 h) : EQ pI h0 (FX12_instruct_204 x1 x2 x6 x7 h) := (EQ_if e (EQ_if (frI_FX12_instruct_251 _ _  _ e) (EQ_if (frI_FX12_instruct_251 _ _  _ e) (frI_FX12_instruct_251 _ _  _ e))))
theorem frI_FX12_instruct_195 {h0 : ph_H} (x1 : Int32) (x2 : Int32) (x3 : Int32) (x4 : Int32) (x6 : Int32) (x7 : Int32) (h : ph_H) (e : EQ pI h0 h) : EQ pI h0 (FX12_instruct_195 x1 x2 x3 x4 x6 x7 h) := (frI_FX12_instruct_204 _ _ _ _  _ (frI_FX12_workPlain _ _ _ _  _ e))
theorem frI_FX12_instruct_177 {h0 : ph_H} (x1 : Int32) (x2 : Int32) (x3 : Int32) (x4 : Int32) (x5 : Int32) (x6 : Int32) (s0 : Int32) (h : ph_H) (e : EQ pI h0 h) : EQ pI h0 (FX12_instruct_177 x1 x2 x3 x4 x5 x6 s0 h) := (frI_FX12_instruct_195 _ _ _ _ _ _  _ (frI_FX12_work _ _ _ _ _  _ e))
theorem frI_FX12_instruct_149 {h0 : ph_H} (x1 : Int32) (x2 : Int32) (x3 : Int32) (x4 : Int32) (x5 : Int32) (s0 : Int32) (h : ph_H) (e : EQ pI h0 h) : EQ pI h0 (FX12_instruct_149 x1 x2 x3 x4 x5 s0 h) := (EQ_if (frI_FX12_instruct_177 _ _ _ _ _ _ _  _ e) (frI_FX12_instruct_177 _ _ _ _ _ _ _  _ e))
theorem frI_FX12_instruct_144 {h0 : ph_H} (x1 : Int32) (x2 : Int32) (x3 : Int32) (x4 : Int32) (x5 : Int32) (h : ph_H) (e : EQ pI h0 h) : EQ pI h0 (FX12_instruct_144 x1 x2 x3 x4 x5 h) := (frI_FX12_instruct_149 _ _ _ _ _ _  _ e)
theorem frI_FX12_instruct_148 {h0 : ph_H} (x1 : Int32) (x2 : Int32) (x3 : Int32) (x4 : Int32) (x5 : Int32) (h : ph_H) (e : EQ pI h0 h) : EQ pI h0 (FX12_instruct_148 x1 x2 x3 x4 x5 h) := (frI_FX12_instruct_149 _ _ _ _ _ _  _ e)
theorem frI_FX12_instruct_102 {h0 : ph_H} (x1 : Int32) (x2 : Int32) (x3 : Int32) (x4 : Int32) (x5 : Int32) (s0 : Int32) (h : ph_H) (e : EQ pI h0 h) : EQ pI h0 (FX12_instruct_102 x1 x2 x3 x4 x5 s0 h) := (EQ_if (EQ_if (frI_FX12_instruct_144 _ _ _ _ _  _ (EQ_s rfl e)) (EQ_if (EQ_if (frI_FX12_instruct_144 _ _ _ _ _  _ (EQ_s rfl e)) (frI_FX12_instruct_148 _ _ _ _ _  _ (EQ_s rfl e))) (frI_FX12_instruct_148 _ _ _ _ _  _ (EQ_s rfl e)))) (EQ_s rfl e))
theorem frI_FX12_instruct_98 {h0 : ph_H} (x1 : Int32) (x2 : Int32) (x3 : Int32) (x4 : Int32) (x5 : Int32) (h : ph_H) (e : EQ pI h0 h) : EQ pI h0 (FX12_instruct_98 x1 x2 x3 x4 x5 h) := (frI_FX12_instruct_102 _ _ _ _ _ _  _ e)
theorem frI_FX12_instruct {h0 : ph_H} (a0 : Int32) (a1 : Int32) (h : ph_H) (e : EQ pI h0 h) : EQ pI h0 (FX12_instruct a0 a1 h) := (EQ_if (EQ_if (frI_FX12_instruct_98 _ _ _ _ _  _ (EQ_s rfl e)) (frI_FX12_instruct_102 _ _ _ _ _ _  _ (EQ_s rfl e))) (frI_FX12_instruct_98 _ _ _ _ _  _ (EQ_s rfl e)))
def pG (k i : Nat) : Bool := match k with
  | 15 => false
  | 16 => false
  | 17 => false
  | 18 => false
  | 19 => false
  | 20 => false
  | 21 => false
  | 22 => false
  | 23 => false
  | 24 => false
  | _ => true
theorem frG_FX3_hold_s {h0 : ph_H} (a0 : Int32) (a1 : Int32) (a2 : Int32) (h : ph_H) (e : EQ pG h0 h) : EQ pG h0 (FX3_hold_s a0 a1 a2 h).2 := (EQ_s rfl (EQ_s rfl e))
theorem frG_FX3_getCell_s {h0 : ph_H} (a0 : Int32) (a1 : Int32) (h : ph_H) (e : EQ pG h0 h) : EQ pG h0 (FX3_getCell_s a0 a1 h).2 := (frG_FX3_hold_s _ _ _  _ (EQ_s rfl e))
theorem frG_FX3_goTo_s {h0 : ph_H} (a0 : Int32) (h : ph_H) (e : EQ pG h0 h) : EQ pG h0 (FX3_goTo_s a0 h).2 := (EQ_s rfl e)
theorem frG_FX3_goUnless_s_25 {h0 : ph_H} (s0 : Int32) (h : ph_H) (e : EQ pG h0 h) : EQ pG h0 (FX3_goUnless_s_25 s0 h).2 := e
theorem frG_FX3_goUnless_s {h0 : ph_H} (a0 : Int32) (a1 : Int32) (h : ph_H) (e : EQ pG h0 h) : EQ pG h0 (FX3_goUnless_s a0 a1 h).2 := (EQ2_if (EQ2_if (frG_FX3_goUnless_s_25 _  _ (frG_FX3_goTo_s _  _ e)) e) e)
theorem frG_FX3_free_s {h0 : ph_H} (a0 : Int32) (h : ph_H) (e : EQ pG h0 h) : EQ pG h0 (FX3_free_s a0 h).2 := (EQ_s rfl (EQ_s rfl (EQ_s rfl e)))
theorem frG_FX3_leaveLock_s {h0 : ph_H} (a0 : Int32) (a1 : Int32) (h : ph_H) (e : EQ pG h0 h) : EQ pG h0 (FX3_leaveLock_s a0 a1 h).2 := (EQ2_if (EQ2_if (frG_FX3_free_s _  _ e) e) e)
theorem frG_FX3_lieDown_s {h0 : ph_H} (a0 : Int32) (a1 : Int32) (h : ph_H) (e : EQ pG h0 h) : EQ pG h0 (FX3_lieDown_s a0 a1 h).2 := (EQ2_if (EQ2_if (frG_FX3_free_s _  _ (EQ_s rfl (EQ_s rfl (EQ_s rfl e)))) e) e)
theorem frG_FX3_makeThing_s {h0 : ph_H} (a0 : Int32) (a1 : Int32) (a2 : Int32) (h : ph_H) (e : EQ pG h0 h) : EQ pG h0 (FX3_makeThing_s a0 a1 a2 h).2 := (EQ_s rfl (EQ_s rfl (EQ_s rfl (EQ_s rfl (EQ_s rfl (EQ_s rfl e))))))
theorem frG_FX3_makeLock_s_22 {h0 : ph_H} (s0 : Int32) (s1 : Int32) (h : ph_H) (e : EQ pG h0 h) : EQ pG h0 (FX3_makeLock_s_22 s0 s1 h).2 := (frG_FX3_makeThing_s _ _ _  _ e)
theorem frG_FX3_makeLock_s {h0 : ph_H} (a0 : Int32) (a1 : Int32) (h : ph_H) (e : EQ pG h0 h) : EQ pG h0 (FX3_makeLock_s a0 a1 h).2 := (EQ2_if (EQ2_if (frG_FX3_makeLock_s_22 _ _  _ e) (frG_FX3_makeLock_s_22 _ _  _ e)) e)
theorem frG_FX3_makeRow_s_44 {h0 : ph_H}  : ∀ (q : Nat) (y0 : Int32) (y1 : Int32) (y2 : Int32) (h : ph_H), EQ pG h0 h → EQ pG h0 (FX3_makeRow_s_44  q y0 y1 y2 h).2 := by
  intro q
  induction q with
  | zero =>
    intro y0 y1 y2 h e
    exact e
  | succ q ih =>
    intro y0 y1 y2 h e
    exact (EQ2_if (frG_FX3_makeThing_s _ _ _  _ e) (ih _ _ _ _ (EQ_s rfl e)))
theorem frG_FX3_makeRow_s {h0 : ph_H} (a0 : Int32) (a1 : Int32) (h : ph_H) (e : EQ pG h0 h) : EQ pG h0 (FX3_makeRow_s a0 a1 h).2 := (EQ2_if (EQ2_if (EQ2_if e (EQ2_if (frG_FX3_makeRow_s_44   _ _ _ _ _ e) e)) e) e)
theorem frG_FX3_putCell_s {h0 : ph_H} (a0 : Int32) (a1 : Int32) (h : ph_H) (e : EQ pG h0 h) : EQ pG h0 (FX3_putCell_s a0 a1 h).2 := (frG_FX3_hold_s _ _ _  _ (EQ_s rfl e))
theorem frG_FX3_readRow_s {h0 : ph_H} (a0 : Int32) (a1 : Int32) (a2 : Int32) (h : ph_H) (e : EQ pG h0 h) : EQ pG h0 (FX3_readRow_s a0 a1 a2 h).2 := (EQ2_if (EQ2_if (EQ2_if e (frG_FX3_hold_s _ _ _  _ (EQ_s rfl e))) e) e)
theorem frG_FX3_reckon_s_58 {h0 : ph_H} (x2 : Int32) (s0 : Int32) (h : ph_H) (e : EQ pG h0 h) : EQ pG h0 (FX3_reckon_s_58 x2 s0 h).2 := (frG_FX3_hold_s _ _ _  _ e)
theorem frG_FX3_reckon_s {h0 : ph_H} (a0 : Int32) (a1 : Int32) (a2 : Int32) (h : ph_H) (e : EQ pG h0 h) : EQ pG h0 (FX3_reckon_s a0 a1 a2 h).2 := (EQ2_if e (EQ2_if (frG_FX3_reckon_s_58 _ _  _ e) (EQ2_if (frG_FX3_reckon_s_58 _ _  _ e) (frG_FX3_reckon_s_58 _ _  _ e))))
theorem frG_FX3_startThread_s {h0 : ph_H} (a0 : Int32) (h : ph_H) (e : EQ pG h0 h) : EQ pG h0 (FX3_startThread_s a0 h).2 := (EQ2_if (EQ_s rfl (EQ_s rfl (EQ_s rfl e))) e)
theorem frG_FX3_takeInput_s {h0 : ph_H} (a0 : Int32) (h : ph_H) (e : EQ pG h0 h) : EQ pG h0 (FX3_takeInput_s a0 h).2 := (EQ2_if e (EQ2_if (frG_FX3_hold_s _ _ _  _ (EQ_s rfl e)) e))
theorem frG_FX3_own_s {h0 : ph_H} (a0 : Int32) (a1 : Int32) (h : ph_H) (e : EQ pG h0 h) : EQ pG h0 (FX3_own_s a0 a1 h).2 := (EQ_s rfl (EQ_s rfl (EQ_s rfl e)))
theorem frG_FX3_takeLock_s {h0 : ph_H} (a0 : Int32) (a1 : Int32) (h : ph_H) (e : EQ pG h0 h) : EQ pG h0 (FX3_takeLock_s a0 a1 h).2 := (EQ2_if (EQ2_if e (frG_FX3_own_s _ _  _ e)) e)
theorem frG_FX3_wakeSleepers_s_64 {h0 : ph_H} (L28 : Int32 → Int32 → ph_H → Int32 × ph_H) (x3 : Int32) (x4 : Int32) (hL28 : ∀ (y0 : Int32) (y1 : Int32) (h : ph_H), EQ pG h0 h → EQ pG h0 (L28 y0 y1 h).2) (h : ph_H) (e : EQ pG h0 h) : EQ pG h0 (FX3_wakeSleepers_s_64 L28 x3 x4 h).2 := (hL28 _ _ _ e)
theorem frG_FX3_wakeSleepers_s_28 {h0 : ph_H}  : ∀ (q : Nat) (y0 : Int32) (y1 : Int32) (h : ph_H), EQ pG h0 h → EQ pG h0 (FX3_wakeSleepers_s_28  q y0 y1 h).2 := by
  intro q
  induction q with
  | zero =>
    intro y0 y1 h e
    exact e
  | succ q ih =>
    intro y0 y1 h e
    exact (EQ2_if (EQ_s rfl e) (EQ2_if (EQ2_if (frG_FX3_wakeSleepers_s_64 _ _ _ ih _ (EQ_s rfl e)) (frG_FX3_wakeSleepers_s_64 _ _ _ ih _ e)) (frG_FX3_wakeSleepers_s_64 _ _ _ ih _ e)))
theorem frG_FX3_wakeSleepers_s {h0 : ph_H} (a0 : Int32) (a1 : Int32) (h : ph_H) (e : EQ pG h0 h) : EQ pG h0 (FX3_wakeSleepers_s a0 a1 h).2 := (EQ2_if (EQ2_if (frG_FX3_wakeSleepers_s_28   _ _ _ _ e) e) e)
theorem frG_FX3_writeRow_s {h0 : ph_H} (a0 : Int32) (a1 : Int32) (a2 : Int32) (h : ph_H) (e : EQ pG h0 h) : EQ pG h0 (FX3_writeRow_s a0 a1 a2 h).2 := (EQ2_if (EQ2_if e (EQ2_if e (EQ_s rfl (EQ_s rfl e)))) e)
theorem frG_FX3_perform_s_288 {h0 : ph_H} (s0 : Int32) (s1 : Int32) (h : ph_H) (e : EQ pG h0 h) : EQ pG h0 (FX3_perform_s_288 s0 s1 h).2 := (frG_FX3_makeLock_s _ _  _ e)
theorem frG_FX3_perform_s {h0 : ph_H} (a0 : Int32) (h : ph_H) (e : EQ pG h0 h) : EQ pG h0 (FX3_perform_s a0 h).2 := (EQ2_if (frG_FX3_hold_s _ _ _  _ e) (EQ2_if (frG_FX3_getCell_s _ _  _ e) (EQ2_if (frG_FX3_putCell_s _ _  _ e) (EQ2_if (frG_FX3_reckon_s _ _ _  _ e) (EQ2_if (frG_FX3_reckon_s _ _ _  _ e) (EQ2_if (frG_FX3_reckon_s _ _ _  _ e) (EQ2_if (frG_FX3_goTo_s _  _ e) (EQ2_if (frG_FX3_goUnless_s _ _  _ e) (EQ2_if (frG_FX3_makeRow_s _ _  _ e) (EQ2_if (frG_FX3_readRow_s _ _ _  _ e) (EQ2_if (frG_FX3_writeRow_s _ _ _  _ e) (EQ2_if (EQ2_if (frG_FX3_perform_s_288 _ _  _ e) (frG_FX3_perform_s_288 _ _  _ e)) (EQ2_if (frG_FX3_takeLock_s _ _  _ e) (EQ2_if (frG_FX3_leaveLock_s _ _  _ e) (EQ2_if (frG_FX3_lieDown_s _ _  _ e) (EQ2_if (frG_FX3_wakeSleepers_s _ _  _ e) (EQ2_if (frG_FX3_takeInput_s _  _ e) (EQ2_if (frG_FX3_startThread_s _  _ e) (EQ2_if e (frG_FX3_goTo_s _  _ e))))))))))))))))))))
theorem frG_FX3_rise_s {h0 : ph_H} (a0 : Int32) (h : ph_H) (e : EQ pG h0 h) : EQ pG h0 (FX3_rise_s a0 h).2 := (frG_FX3_own_s _ _  _ (EQ_s rfl e))
theorem frG_FX3_go_s_67 {h0 : ph_H} (x1 : Int32) (s0 : Int32) (h : ph_H) (e : EQ pG h0 h) : EQ pG h0 (FX3_go_s_67 x1 s0 h).2 := (EQ2_if (EQ_s rfl e) e)
theorem frG_FX3_go_s_59 {h0 : ph_H} (x1 : Int32) (s0 : Int32) (h : ph_H) (e : EQ pG h0 h) : EQ pG h0 (FX3_go_s_59 x1 s0 h).2 := (frG_FX3_go_s_67 _ _  _ e)
theorem frG_FX3_go_s {h0 : ph_H} (a0 : Int32) (h : ph_H) (e : EQ pG h0 h) : EQ pG h0 (FX3_go_s a0 h).2 := (EQ2_if e (EQ2_if (frG_FX3_go_s_59 _ _  _ (frG_FX3_rise_s _  _ (EQ_s rfl (EQ_s rfl (EQ_s rfl (EQ_s rfl (EQ_s rfl e))))))) (frG_FX3_go_s_67 _ _  _ (frG_FX3_perform_s _  _ (EQ_s rfl (EQ_s rfl (EQ_s rfl (EQ_s rfl (EQ_s rfl e)))))))))
def pA (k i : Nat) : Bool := match k with
  | 15 => false
  | 16 => false
  | 17 => false
  | 18 => false
  | 19 => false
  | 20 => false
  | 21 => false
  | 22 => false
  | 23 => false
  | 24 => false
  | 35 => false
  | 36 => false
  | 37 => false
  | 38 => false
  | 39 => false
  | 40 => false
  | 41 => false
  | 42 => false
  | 43 => false
  | 44 => false
  | 45 => false
  | 46 => false
  | _ => true
theorem frA_FX10_noteChange {h0 : ph_H} (a0 : Int32) (h : ph_H) (e : EQ pA h0 h) : EQ pA h0 (FX10_noteChange a0 h) := (EQ_if e (EQ_s rfl (EQ_s rfl (EQ_s rfl e))))
theorem frA_FX10_noteEffects_s_68 {h0 : ph_H}  (h : ph_H) (e : EQ pA h0 h) : EQ pA h0 (FX10_noteEffects_s_68 h) := (EQ_s rfl (EQ_s rfl e))
theorem frA_FX10_noteEffects_s {h0 : ph_H}  (h : ph_H) (e : EQ pA h0 h) : EQ pA h0 (FX10_noteEffects_s h) := (EQ_if (frA_FX10_noteEffects_s_68   _ (EQ_s rfl (EQ_s rfl e))) (EQ_if (frA_FX10_noteEffects_s_68   _ (EQ_s rfl (EQ_s rfl e))) (frA_FX10_noteEffects_s_68   _ (EQ_s rfl (EQ_s rfl (EQ_s rfl (EQ_s rfl e)))))))
theorem frA_FX3_hold_s {h0 : ph_H} (a0 : Int32) (a1 : Int32) (a2 : Int32) (h : ph_H) (e : EQ pA h0 h) : EQ pA h0 (FX3_hold_s a0 a1 a2 h).2 := (EQ_s rfl (EQ_s rfl e))
theorem frA_FX3_getCell_s {h0 : ph_H} (a0 : Int32) (a1 : Int32) (h : ph_H) (e : EQ pA h0 h) : EQ pA h0 (FX3_getCell_s a0 a1 h).2 := (frA_FX3_hold_s _ _ _  _ (EQ_s rfl e))
theorem frA_FX3_goTo_s {h0 : ph_H} (a0 : Int32) (h : ph_H) (e : EQ pA h0 h) : EQ pA h0 (FX3_goTo_s a0 h).2 := (EQ_s rfl e)
theorem frA_FX3_goUnless_s_25 {h0 : ph_H} (s0 : Int32) (h : ph_H) (e : EQ pA h0 h) : EQ pA h0 (FX3_goUnless_s_25 s0 h).2 := e
theorem frA_FX3_goUnless_s {h0 : ph_H} (a0 : Int32) (a1 : Int32) (h : ph_H) (e : EQ pA h0 h) : EQ pA h0 (FX3_goUnless_s a0 a1 h).2 := (EQ2_if (EQ2_if (frA_FX3_goUnless_s_25 _  _ (frA_FX3_goTo_s _  _ e)) e) e)
theorem frA_FX3_free_s {h0 : ph_H} (a0 : Int32) (h : ph_H) (e : EQ pA h0 h) : EQ pA h0 (FX3_free_s a0 h).2 := (EQ_s rfl (EQ_s rfl (EQ_s rfl e)))
theorem frA_FX3_leaveLock_s {h0 : ph_H} (a0 : Int32) (a1 : Int32) (h : ph_H) (e : EQ pA h0 h) : EQ pA h0 (FX3_leaveLock_s a0 a1 h).2 := (EQ2_if (EQ2_if (frA_FX3_free_s _  _ e) e) e)
theorem frA_FX3_lieDown_s {h0 : ph_H} (a0 : Int32) (a1 : Int32) (h : ph_H) (e : EQ pA h0 h) : EQ pA h0 (FX3_lieDown_s a0 a1 h).2 := (EQ2_if (EQ2_if (frA_FX3_free_s _  _ (EQ_s rfl (EQ_s rfl (EQ_s rfl e)))) e) e)
theorem frA_FX3_makeThing_s {h0 : ph_H} (a0 : Int32) (a1 : Int32) (a2 : Int32) (h : ph_H) (e : EQ pA h0 h) : EQ pA h0 (FX3_makeThing_s a0 a1 a2 h).2 := (EQ_s rfl (EQ_s rfl (EQ_s rfl (EQ_s rfl (EQ_s rfl (EQ_s rfl e))))))
theorem frA_FX3_makeLock_s_22 {h0 : ph_H} (s0 : Int32) (s1 : Int32) (h : ph_H) (e : EQ pA h0 h) : EQ pA h0 (FX3_makeLock_s_22 s0 s1 h).2 := (frA_FX3_makeThing_s _ _ _  _ e)
theorem frA_FX3_makeLock_s {h0 : ph_H} (a0 : Int32) (a1 : Int32) (h : ph_H) (e : EQ pA h0 h) : EQ pA h0 (FX3_makeLock_s a0 a1 h).2 := (EQ2_if (EQ2_if (frA_FX3_makeLock_s_22 _ _  _ e) (frA_FX3_makeLock_s_22 _ _  _ e)) e)
theorem frA_FX3_makeRow_s_44 {h0 : ph_H}  : ∀ (q : Nat) (y0 : Int32) (y1 : Int32) (y2 : Int32) (h : ph_H), EQ pA h0 h → EQ pA h0 (FX3_makeRow_s_44  q y0 y1 y2 h).2 := by
  intro q
  induction q with
  | zero =>
    intro y0 y1 y2 h e
    exact e
  | succ q ih =>
    intro y0 y1 y2 h e
    exact (EQ2_if (frA_FX3_makeThing_s _ _ _  _ e) (ih _ _ _ _ (EQ_s rfl e)))
theorem frA_FX3_makeRow_s {h0 : ph_H} (a0 : Int32) (a1 : Int32) (h : ph_H) (e : EQ pA h0 h) : EQ pA h0 (FX3_makeRow_s a0 a1 h).2 := (EQ2_if (EQ2_if (EQ2_if e (EQ2_if (frA_FX3_makeRow_s_44   _ _ _ _ _ e) e)) e) e)
theorem frA_FX3_putCell_s {h0 : ph_H} (a0 : Int32) (a1 : Int32) (h : ph_H) (e : EQ pA h0 h) : EQ pA h0 (FX3_putCell_s a0 a1 h).2 := (frA_FX3_hold_s _ _ _  _ (EQ_s rfl e))
theorem frA_FX3_readRow_s {h0 : ph_H} (a0 : Int32) (a1 : Int32) (a2 : Int32) (h : ph_H) (e : EQ pA h0 h) : EQ pA h0 (FX3_readRow_s a0 a1 a2 h).2 := (EQ2_if (EQ2_if (EQ2_if e (frA_FX3_hold_s _ _ _  _ (EQ_s rfl e))) e) e)
theorem frA_FX3_reckon_s_58 {h0 : ph_H} (x2 : Int32) (s0 : Int32) (h : ph_H) (e : EQ pA h0 h) : EQ pA h0 (FX3_reckon_s_58 x2 s0 h).2 := (frA_FX3_hold_s _ _ _  _ e)
theorem frA_FX3_reckon_s {h0 : ph_H} (a0 : Int32) (a1 : Int32) (a2 : Int32) (h : ph_H) (e : EQ pA h0 h) : EQ pA h0 (FX3_reckon_s a0 a1 a2 h).2 := (EQ2_if e (EQ2_if (frA_FX3_reckon_s_58 _ _  _ e) (EQ2_if (frA_FX3_reckon_s_58 _ _  _ e) (frA_FX3_reckon_s_58 _ _  _ e))))
theorem frA_FX3_startThread_s {h0 : ph_H} (a0 : Int32) (h : ph_H) (e : EQ pA h0 h) : EQ pA h0 (FX3_startThread_s a0 h).2 := (EQ2_if (EQ_s rfl (EQ_s rfl (EQ_s rfl e))) e)
theorem frA_FX3_takeInput_s {h0 : ph_H} (a0 : Int32) (h : ph_H) (e : EQ pA h0 h) : EQ pA h0 (FX3_takeInput_s a0 h).2 := (EQ2_if e (EQ2_if (frA_FX3_hold_s _ _ _  _ (EQ_s rfl e)) e))
theorem frA_FX3_own_s {h0 : ph_H} (a0 : Int32) (a1 : Int32) (h : ph_H) (e : EQ pA h0 h) : EQ pA h0 (FX3_own_s a0 a1 h).2 := (EQ_s rfl (EQ_s rfl (EQ_s rfl e)))
theorem frA_FX3_takeLock_s {h0 : ph_H} (a0 : Int32) (a1 : Int32) (h : ph_H) (e : EQ pA h0 h) : EQ pA h0 (FX3_takeLock_s a0 a1 h).2 := (EQ2_if (EQ2_if e (frA_FX3_own_s _ _  _ e)) e)
theorem frA_FX3_wakeSleepers_s_64 {h0 : ph_H} (L28 : Int32 → Int32 → ph_H → Int32 × ph_H) (x3 : Int32) (x4 : Int32) (hL28 : ∀ (y0 : Int32) (y1 : Int32) (h : ph_H), EQ pA h0 h → EQ pA h0 (L28 y0 y1 h).2) (h : ph_H) (e : EQ pA h0 h) : EQ pA h0 (FX3_wakeSleepers_s_64 L28 x3 x4 h).2 := (hL28 _ _ _ e)
theorem frA_FX3_wakeSleepers_s_28 {h0 : ph_H}  : ∀ (q : Nat) (y0 : Int32) (y1 : Int32) (h : ph_H), EQ pA h0 h → EQ pA h0 (FX3_wakeSleepers_s_28  q y0 y1 h).2 := by
  intro q
  induction q with
  | zero =>
    intro y0 y1 h e
    exact e
  | succ q ih =>
    intro y0 y1 h e
    exact (EQ2_if (EQ_s rfl e) (EQ2_if (EQ2_if (frA_FX3_wakeSleepers_s_64 _ _ _ ih _ (EQ_s rfl e)) (frA_FX3_wakeSleepers_s_64 _ _ _ ih _ e)) (frA_FX3_wakeSleepers_s_64 _ _ _ ih _ e)))
theorem frA_FX3_wakeSleepers_s {h0 : ph_H} (a0 : Int32) (a1 : Int32) (h : ph_H) (e : EQ pA h0 h) : EQ pA h0 (FX3_wakeSleepers_s a0 a1 h).2 := (EQ2_if (EQ2_if (frA_FX3_wakeSleepers_s_28   _ _ _ _ e) e) e)
theorem frA_FX3_writeRow_s {h0 : ph_H} (a0 : Int32) (a1 : Int32) (a2 : Int32) (h : ph_H) (e : EQ pA h0 h) : EQ pA h0 (FX3_writeRow_s a0 a1 a2 h).2 := (EQ2_if (EQ2_if e (EQ2_if e (EQ_s rfl (EQ_s rfl e)))) e)
theorem frA_FX3_perform_s_288 {h0 : ph_H} (s0 : Int32) (s1 : Int32) (h : ph_H) (e : EQ pA h0 h) : EQ pA h0 (FX3_perform_s_288 s0 s1 h).2 := (frA_FX3_makeLock_s _ _  _ e)
theorem frA_FX3_perform_s {h0 : ph_H} (a0 : Int32) (h : ph_H) (e : EQ pA h0 h) : EQ pA h0 (FX3_perform_s a0 h).2 := (EQ2_if (frA_FX3_hold_s _ _ _  _ e) (EQ2_if (frA_FX3_getCell_s _ _  _ e) (EQ2_if (frA_FX3_putCell_s _ _  _ e) (EQ2_if (frA_FX3_reckon_s _ _ _  _ e) (EQ2_if (frA_FX3_reckon_s _ _ _  _ e) (EQ2_if (frA_FX3_reckon_s _ _ _  _ e) (EQ2_if (frA_FX3_goTo_s _  _ e) (EQ2_if (frA_FX3_goUnless_s _ _  _ e) (EQ2_if (frA_FX3_makeRow_s _ _  _ e) (EQ2_if (frA_FX3_readRow_s _ _ _  _ e) (EQ2_if (frA_FX3_writeRow_s _ _ _  _ e) (EQ2_if (EQ2_if (frA_FX3_perform_s_288 _ _  _ e) (frA_FX3_perform_s_288 _ _  _ e)) (EQ2_if (frA_FX3_takeLock_s _ _  _ e) (EQ2_if (frA_FX3_leaveLock_s _ _  _ e) (EQ2_if (frA_FX3_lieDown_s _ _  _ e) (EQ2_if (frA_FX3_wakeSleepers_s _ _  _ e) (EQ2_if (frA_FX3_takeInput_s _  _ e) (EQ2_if (frA_FX3_startThread_s _  _ e) (EQ2_if e (frA_FX3_goTo_s _  _ e))))))))))))))))))))
theorem frA_FX3_rise_s {h0 : ph_H} (a0 : Int32) (h : ph_H) (e : EQ pA h0 h) : EQ pA h0 (FX3_rise_s a0 h).2 := (frA_FX3_own_s _ _  _ (EQ_s rfl e))
theorem frA_FX3_go_s_67 {h0 : ph_H} (x1 : Int32) (s0 : Int32) (h : ph_H) (e : EQ pA h0 h) : EQ pA h0 (FX3_go_s_67 x1 s0 h).2 := (EQ2_if (EQ_s rfl e) e)
theorem frA_FX3_go_s_59 {h0 : ph_H} (x1 : Int32) (s0 : Int32) (h : ph_H) (e : EQ pA h0 h) : EQ pA h0 (FX3_go_s_59 x1 s0 h).2 := (frA_FX3_go_s_67 _ _  _ e)
theorem frA_FX3_go_s {h0 : ph_H} (a0 : Int32) (h : ph_H) (e : EQ pA h0 h) : EQ pA h0 (FX3_go_s a0 h).2 := (EQ2_if e (EQ2_if (frA_FX3_go_s_59 _ _  _ (frA_FX3_rise_s _  _ (EQ_s rfl (EQ_s rfl (EQ_s rfl (EQ_s rfl (EQ_s rfl e))))))) (frA_FX3_go_s_67 _ _  _ (frA_FX3_perform_s _  _ (EQ_s rfl (EQ_s rfl (EQ_s rfl (EQ_s rfl (EQ_s rfl e)))))))))
theorem frA_FX10_advance_s_51 {h0 : ph_H} (x2 : Int32) (x3 : Int32) (h : ph_H) (e : EQ pA h0 h) : EQ pA h0 (FX10_advance_s_51 x2 x3 h).2 := (frA_FX10_noteEffects_s   _ (EQ_s rfl (EQ_s rfl (EQ_s rfl (EQ_s rfl e)))))
theorem frA_FX10_advance_s_30 {h0 : ph_H} (x2 : Int32) (x3 : Int32) (s0 : Int32) (h : ph_H) (e : EQ pA h0 h) : EQ pA h0 (FX10_advance_s_30 x2 x3 s0 h).2 := (EQ2_if e (frA_FX10_advance_s_51 _ _  _ (frA_FX10_noteChange _  _ (EQ_s rfl e))))
theorem frA_FX10_advance_s {h0 : ph_H} (a1 : Int32) (h : ph_H) (e : EQ pA h0 h) : EQ pA h0 (FX10_advance_s a1 h).2 := (EQ2_if (EQ2_if (frA_FX10_advance_s_30 _ _ _  _ (frA_FX3_go_s _  _ e)) e) e)
def pT (k i : Nat) : Bool := match k with
  | 0 => !(i == 60 || i == 18 || (23 ≤ i && i ≤ 35))
  | 10 => false
  | 11 => false
  | 12 => false
  | 13 => false
  | 14 => false
  | 15 => false
  | 16 => false
  | 17 => false
  | 18 => false
  | 19 => false
  | 20 => false
  | 21 => false
  | 22 => false
  | 23 => false
  | 24 => false
  | 25 => false
  | 26 => false
  | 27 => false
  | 28 => false
  | 29 => false
  | 30 => false
  | 31 => false
  | 32 => false
  | 33 => false
  | 34 => false
  | 35 => false
  | 36 => false
  | 37 => false
  | 38 => false
  | _ => true
theorem frT_FX12_goTo_19 {h0 : ph_H} (s0 : Int32) (h : ph_H) (e : EQ pT h0 h) : EQ pT h0 (FX12_goTo_19 s0 h) := (EQ_s rfl e)
theorem frT_FX12_goTo {h0 : ph_H} (a0 : Int32) (a1 : Int32) (h : ph_H) (e : EQ pT h0 h) : EQ pT h0 (FX12_goTo a0 a1 h) := (EQ_if (frT_FX12_goTo_19 _  _ e) (EQ_if (EQ_s rfl e) (frT_FX12_goTo_19 _  _ e)))
theorem frT_FX12_set {h0 : ph_H} (a0 : Int32) (a1 : Int32) (a2 : Int32) (h : ph_H) (e : EQ pT h0 h) : EQ pT h0 (FX12_set a0 a1 a2 h) := (EQ_s rfl (EQ_s rfl e))
theorem frT_FX12_newThing_29 {h0 : ph_H}  : ∀ (q : Nat) (y0 : Int32) (y1 : Int32) (h : ph_H), EQ pT h0 h → EQ pT h0 (FX12_newThing_29  q y0 y1 h).2 := by
  intro q
  induction q with
  | zero =>
    intro y0 y1 h e
    exact e
  | succ q ih =>
    intro y0 y1 h e
    exact (EQ2_if (EQ_s rfl e) (ih _ _ _ (EQ_s rfl e)))
theorem frT_FX12_newThing {h0 : ph_H} (a0 : Int32) (a1 : Int32) (h : ph_H) (e : EQ pT h0 h) : EQ pT h0 (FX12_newThing a0 a1 h).2 := (frT_FX12_newThing_29   _ _ _ _ (EQ_s rfl (EQ_s rfl (EQ_s rfl e))))
theorem frT_FX12_work_88 {h0 : ph_H}  (h : ph_H) (e : EQ pT h0 h) : EQ pT h0 (FX12_work_88 h) := e
theorem frT_FX12_work_111 {h0 : ph_H}  (h : ph_H) (e : EQ pT h0 h) : EQ pT h0 (FX12_work_111 h) := e
theorem frT_FX12_work_134 {h0 : ph_H}  (h : ph_H) (e : EQ pT h0 h) : EQ pT h0 (FX12_work_134 h) := e
theorem frT_FX12_work_155 {h0 : ph_H}  (h : ph_H) (e : EQ pT h0 h) : EQ pT h0 (FX12_work_155 h) := e
theorem frT_FX12_work_152 {h0 : ph_H} (s0 : Int32) (s1 : Int32) (s2 : Int32) (h : ph_H) (e : EQ pT h0 h) : EQ pT h0 (FX12_work_152 s0 s1 s2 h) := (frT_FX12_work_155   _ (frT_FX12_set _ _ _  _ e))
theorem frT_FX12_work_212 {h0 : ph_H}  (h : ph_H) (e : EQ pT h0 h) : EQ pT h0 (FX12_work_212 h) := e
theorem frT_FX12_work_435 {h0 : ph_H} (L391 : Int32 → Int32 → ph_H → ph_H) (x3 : Int32) (x6 : Int32) (hL391 : ∀ (y0 : Int32) (y1 : Int32) (h : ph_H), EQ pT h0 h → EQ pT h0 (L391 y0 y1 h)) (h : ph_H) (e : EQ pT h0 h) : EQ pT h0 (FX12_work_435 L391 x3 x6 h) := (hL391 _ _ _ e)
theorem frT_FX12_work_391 {h0 : ph_H}  : ∀ (q : Nat) (y0 : Int32) (y1 : Int32) (h : ph_H), EQ pT h0 h → EQ pT h0 (FX12_work_391  q y0 y1 h) := by
  intro q
  induction q with
  | zero =>
    intro y0 y1 h e
    exact e
  | succ q ih =>
    intro y0 y1 h e
    exact (EQ_if e (EQ_if (frT_FX12_work_435 _ _ _ ih _ (EQ_s rfl (EQ_s rfl e))) (frT_FX12_work_435 _ _ _ ih _ e)))
theorem frT_FX12_work {h0 : ph_H} (a0 : Int32) (a1 : Int32) (a2 : Int32) (a3 : Int32) (a4 : Int32) (h : ph_H) (e : EQ pT h0 h) : EQ pT h0 (FX12_work a0 a1 a2 a3 a4 h) := (EQ_if (frT_FX12_work_88   _ (frT_FX12_set _ _ _  _ e)) (EQ_if (frT_FX12_work_111   _ (frT_FX12_set _ _ _  _ e)) (EQ_if (frT_FX12_work_134   _ (frT_FX12_set _ _ _  _ e)) (EQ_if e (EQ_if e (EQ_if (frT_FX12_work_152 _ _ _  _ (frT_FX12_newThing _ _  _ e)) (EQ_if (frT_FX12_work_212   _ (frT_FX12_set _ _ _  _ (EQ_s rfl e))) (EQ_if (EQ_s rfl (EQ_s rfl e)) (EQ_if e (EQ_if (EQ_s rfl (EQ_s rfl (EQ_s rfl e))) (EQ_if (EQ_s rfl (EQ_s rfl (EQ_s rfl e))) (EQ_if (EQ_s rfl (EQ_s rfl (EQ_s rfl (EQ_s rfl e)))) (EQ_if (frT_FX12_work_391   _ _ _ _ (EQ_s rfl (EQ_s rfl e))) e)))))))))))))
theorem frT_FX12_workPlain_116 {h0 : ph_H}  (h : ph_H) (e : EQ pT h0 h) : EQ pT h0 (FX12_workPlain_116 h) := e
theorem frT_FX12_workPlain_153 {h0 : ph_H}  (h : ph_H) (e : EQ pT h0 h) : EQ pT h0 (FX12_workPlain_153 h) := e
theorem frT_FX12_workPlain_191 {h0 : ph_H}  (h : ph_H) (e : EQ pT h0 h) : EQ pT h0 (FX12_workPlain_191 h) := e
theorem frT_FX12_workPlain_222 {h0 : ph_H}  (h : ph_H) (e : EQ pT h0 h) : EQ pT h0 (FX12_workPlain_222 h) := e
theorem frT_FX12_workPlain_219 {h0 : ph_H} (s0 : Int32) (s1 : Int32) (s2 : Int32) (h : ph_H) (e : EQ pT h0 h) : EQ pT h0 (FX12_workPlain_219 s0 s1 s2 h) := (frT_FX12_workPlain_222   _ (frT_FX12_set _ _ _  _ e))
theorem frT_FX12_workPlain_206 {h0 : ph_H} (x3 : Int32) (s0 : Int32) (h : ph_H) (e : EQ pT h0 h) : EQ pT h0 (FX12_workPlain_206 x3 s0 h) := (frT_FX12_workPlain_219 _ _ _  _ (frT_FX12_newThing _ _  _ e))
theorem frT_FX12_workPlain_259 {h0 : ph_H}  (h : ph_H) (e : EQ pT h0 h) : EQ pT h0 (FX12_workPlain_259 h) := (EQ_s rfl e)
theorem frT_FX12_workPlain_256 {h0 : ph_H} (s0 : Int32) (s1 : Int32) (s2 : Int32) (h : ph_H) (e : EQ pT h0 h) : EQ pT h0 (FX12_workPlain_256 s0 s1 s2 h) := (frT_FX12_workPlain_259   _ (frT_FX12_set _ _ _  _ e))
theorem frT_FX12_workPlain {h0 : ph_H} (a0 : Int32) (a1 : Int32) (a2 : Int32) (a3 : Int32) (h : ph_H) (e : EQ pT h0 h) : EQ pT h0 (FX12_workPlain a0 a1 a2 a3 h) := (EQ_if (frT_FX12_workPlain_116   _ (frT_FX12_set _ _ _  _ e)) (EQ_if (frT_FX12_workPlain_153   _ (frT_FX12_set _ _ _  _ (EQ_s rfl e))) (EQ_if (frT_FX12_workPlain_191   _ (frT_FX12_set _ _ _  _ (EQ_s rfl e))) (EQ_if e (EQ_if e (EQ_if e (EQ_if e (EQ_if e (EQ_if e (EQ_if e (EQ_if e (EQ_if (EQ_if (frT_FX12_workPlain_206 _ _  _ e) (frT_FX12_workPlain_206 _ _  _ e)) (EQ_if e (EQ_if e (EQ_if e (EQ_if e (EQ_if (EQ_if (frT_FX12_workPlain_256 _ _ _  _ e) (frT_FX12_workPlain_256 _ _ _  _ e)) (EQ_if (EQ_s rfl (EQ_s rfl (EQ_s rfl e))) e))))))))))))))))))
theorem frT_FX12_instruct_251 {h0 : ph_H} (s0 : Int32) (s1 : Int32) (h : ph_H) (e : EQ pT h0 h) : EQ pT h0 (FX12_instruct_251 s0 s1 h) := (frT_FX12_goTo _ _  _ e)
theorem frT_FX12_instruct_204 {h0 : ph_H} (x1 : Int32) (x2 : Int32) (x6 : Int32) (x7 : Int32) (h : ph_H) (e : EQ pT h0 h) : EQ pT h0 (FX12_instruct_204 x1 x2 x6 x7 h) := (EQ_if e (EQ_if (frT_FX12_instruct_251 _ _  _ e) (EQ_if (frT_FX12_instruct_251 _ _  _ e) (frT_FX12_instruct_251 _ _  _ e))))
theorem frT_FX12_instruct_195 {h0 : ph_H} (x1 : Int32) (x2 : Int32) (x3 : Int32) (x4 : Int32) (x6 : Int32) (x7 : Int32) (h : ph_H) (e : EQ pT h0 h) : EQ pT h0 (FX12_instruct_195 x1 x2 x3 x4 x6 x7 h) := (frT_FX12_instruct_204 _ _ _ _  _ (frT_FX12_workPlain _ _ _ _  _ e))
theorem frT_FX12_instruct_177 {h0 : ph_H} (x1 : Int32) (x2 : Int32) (x3 : Int32) (x4 : Int32) (x5 : Int32) (x6 : Int32) (s0 : Int32) (h : ph_H) (e : EQ pT h0 h) : EQ pT h0 (FX12_instruct_177 x1 x2 x3 x4 x5 x6 s0 h) := (frT_FX12_instruct_195 _ _ _ _ _ _  _ (frT_FX12_work _ _ _ _ _  _ e))
theorem frT_FX12_instruct_149 {h0 : ph_H} (x1 : Int32) (x2 : Int32) (x3 : Int32) (x4 : Int32) (x5 : Int32) (s0 : Int32) (h : ph_H) (e : EQ pT h0 h) : EQ pT h0 (FX12_instruct_149 x1 x2 x3 x4 x5 s0 h) := (EQ_if (frT_FX12_instruct_177 _ _ _ _ _ _ _  _ e) (frT_FX12_instruct_177 _ _ _ _ _ _ _  _ e))
theorem frT_FX12_instruct_144 {h0 : ph_H} (x1 : Int32) (x2 : Int32) (x3 : Int32) (x4 : Int32) (x5 : Int32) (h : ph_H) (e : EQ pT h0 h) : EQ pT h0 (FX12_instruct_144 x1 x2 x3 x4 x5 h) := (frT_FX12_instruct_149 _ _ _ _ _ _  _ e)
theorem frT_FX12_instruct_148 {h0 : ph_H} (x1 : Int32) (x2 : Int32) (x3 : Int32) (x4 : Int32) (x5 : Int32) (h : ph_H) (e : EQ pT h0 h) : EQ pT h0 (FX12_instruct_148 x1 x2 x3 x4 x5 h) := (frT_FX12_instruct_149 _ _ _ _ _ _  _ e)
theorem frT_FX12_instruct_102 {h0 : ph_H} (x1 : Int32) (x2 : Int32) (x3 : Int32) (x4 : Int32) (x5 : Int32) (s0 : Int32) (h : ph_H) (e : EQ pT h0 h) : EQ pT h0 (FX12_instruct_102 x1 x2 x3 x4 x5 s0 h) := (EQ_if (EQ_if (frT_FX12_instruct_144 _ _ _ _ _  _ (EQ_s rfl e)) (EQ_if (EQ_if (frT_FX12_instruct_144 _ _ _ _ _  _ (EQ_s rfl e)) (frT_FX12_instruct_148 _ _ _ _ _  _ (EQ_s rfl e))) (frT_FX12_instruct_148 _ _ _ _ _  _ (EQ_s rfl e)))) (EQ_s rfl e))
theorem frT_FX12_instruct_98 {h0 : ph_H} (x1 : Int32) (x2 : Int32) (x3 : Int32) (x4 : Int32) (x5 : Int32) (h : ph_H) (e : EQ pT h0 h) : EQ pT h0 (FX12_instruct_98 x1 x2 x3 x4 x5 h) := (frT_FX12_instruct_102 _ _ _ _ _ _  _ e)
theorem frT_FX12_instruct {h0 : ph_H} (a0 : Int32) (a1 : Int32) (h : ph_H) (e : EQ pT h0 h) : EQ pT h0 (FX12_instruct a0 a1 h) := (EQ_if (EQ_if (frT_FX12_instruct_98 _ _ _ _ _  _ (EQ_s rfl e)) (frT_FX12_instruct_102 _ _ _ _ _ _  _ (EQ_s rfl e))) (frT_FX12_instruct_98 _ _ _ _ _  _ (EQ_s rfl e)))
theorem frT_FX12_step_154 {h0 : ph_H} (x1 : Int32) (h : ph_H) (e : EQ pT h0 h) : EQ pT h0 (FX12_step_154 x1 h) := (EQ_s rfl (EQ_s rfl e))
theorem frT_FX12_step_110 {h0 : ph_H} (x1 : Int32) (h : ph_H) (e : EQ pT h0 h) : EQ pT h0 (FX12_step_110 x1 h) := (frT_FX12_step_154 _  _ e)
theorem frT_FX12_step_148 {h0 : ph_H} (x1 : Int32) (x2 : Int32) (h : ph_H) (e : EQ pT h0 h) : EQ pT h0 (FX12_step_148 x1 x2 h) := (frT_FX12_step_154 _  _ (frT_FX12_instruct _ _  _ e))
theorem frT_FX12_step {h0 : ph_H} (a0 : Int32) (h : ph_H) (e : EQ pT h0 h) : EQ pT h0 (FX12_step a0 h) := (EQ_if (EQ_if (EQ_if (frT_FX12_step_148 _ _  _ (EQ_s rfl (EQ_s rfl (EQ_s rfl (EQ_s rfl (EQ_s rfl (EQ_s rfl e))))))) (EQ_if (EQ_s rfl (EQ_s rfl (EQ_s rfl (EQ_s rfl (EQ_s rfl (EQ_s rfl (EQ_s rfl e))))))) (frT_FX12_step_148 _ _  _ (EQ_s rfl (EQ_s rfl (EQ_s rfl (EQ_s rfl (EQ_s rfl (EQ_s rfl e))))))))) (frT_FX12_step_148 _ _  _ (EQ_s rfl (EQ_s rfl (EQ_s rfl (EQ_s rfl (EQ_s rfl (EQ_s rfl e)))))))) (frT_FX12_step_110 _  _ (frT_FX12_goTo _ _  _ (EQ_s rfl (EQ_s rfl (EQ_s rfl (EQ_s rfl (EQ_s rfl (EQ_s rfl (EQ_s rfl (EQ_s rfl (EQ_s rfl (EQ_s rfl e)))))))))))))
theorem frT_FX12_keep_171 {h0 : ph_H}  : ∀ (q : Nat) (y0 : Int32) (y1 : Int32) (h : ph_H), EQ pT h0 h → EQ pT h0 (FX12_keep_171  q y0 y1 h) := by
  intro q
  induction q with
  | zero =>
    intro y0 y1 h e
    exact e
  | succ q ih =>
    intro y0 y1 h e
    exact (EQ_if e (ih _ _ _ (EQ_s rfl e)))
theorem frT_FX12_keep_104 {h0 : ph_H}  : ∀ (q : Nat) (y0 : Int32) (y1 : Int32) (h : ph_H), EQ pT h0 h → EQ pT h0 (FX12_keep_104  q y0 y1 h) := by
  intro q
  induction q with
  | zero =>
    intro y0 y1 h e
    exact e
  | succ q ih =>
    intro y0 y1 h e
    exact (EQ_if (frT_FX12_keep_171   _ _ _ _ e) (ih _ _ _ (EQ_s rfl (EQ_s rfl (EQ_s rfl e)))))
theorem frT_FX12_keep_50 {h0 : ph_H}  : ∀ (q : Nat) (y0 : Int32) (y1 : Int32) (h : ph_H), EQ pT h0 h → EQ pT h0 (FX12_keep_50  q y0 y1 h) := by
  intro q
  induction q with
  | zero =>
    intro y0 y1 h e
    exact e
  | succ q ih =>
    intro y0 y1 h e
    exact (EQ_if (frT_FX12_keep_104   _ _ _ _ (EQ_s rfl e)) (ih _ _ _ (EQ_s rfl (EQ_s rfl e))))
theorem frT_FX12_keep_2 {h0 : ph_H}  : ∀ (q : Nat) (y0 : Int32) (y1 : Int32) (h : ph_H), EQ pT h0 h → EQ pT h0 (FX12_keep_2  q y0 y1 h) := by
  intro q
  induction q with
  | zero =>
    intro y0 y1 h e
    exact e
  | succ q ih =>
    intro y0 y1 h e
    exact (EQ_if (frT_FX12_keep_50   _ _ _ _ e) (ih _ _ _ (EQ_s rfl (EQ_s rfl e))))
theorem frT_FX12_keep {h0 : ph_H} (a0 : Int32) (h : ph_H) (e : EQ pT h0 h) : EQ pT h0 (FX12_keep a0 h) := (frT_FX12_keep_2   _ _ _ _ e)
theorem frT_FX12_stepKept_182 {h0 : ph_H} (s0 : Int32) (s1 : Int32) (h : ph_H) (e : EQ pT h0 h) : EQ pT h0 (FX12_stepKept_182 s0 s1 h) := (frT_FX12_keep _  _ (EQ_s rfl (EQ_s rfl e)))
theorem frT_FX12_stepKept_158 {h0 : ph_H} (s0 : Int32) (s1 : Int32) (h : ph_H) (e : EQ pT h0 h) : EQ pT h0 (FX12_stepKept_158 s0 s1 h) := (EQ_if (frT_FX12_stepKept_182 _ _  _ (EQ_s rfl e)) (frT_FX12_stepKept_182 _ _  _ (EQ_s rfl e)))
theorem frT_FX12_stepKept_133 {h0 : ph_H} (s0 : Int32) (s1 : Int32) (h : ph_H) (e : EQ pT h0 h) : EQ pT h0 (FX12_stepKept_133 s0 s1 h) := (EQ_if (frT_FX12_stepKept_158 _ _  _ (EQ_s rfl e)) (frT_FX12_stepKept_158 _ _  _ (EQ_s rfl e)))
theorem frT_FX12_stepKept_73 {h0 : ph_H} (x1 : Int32) (h : ph_H) (e : EQ pT h0 h) : EQ pT h0 (FX12_stepKept_73 x1 h) := (EQ_if (frT_FX12_stepKept_133 _ _  _ (EQ_s rfl (EQ_s rfl (EQ_s rfl e)))) (frT_FX12_stepKept_133 _ _  _ (EQ_s rfl (EQ_s rfl (EQ_s rfl e)))))
theorem frT_FX12_stepKept_53 {h0 : ph_H} (x1 : Int32) (x3 : Int32) (h : ph_H) (e : EQ pT h0 h) : EQ pT h0 (FX12_stepKept_53 x1 x3 h) := (EQ_if (frT_FX12_stepKept_73 _  _ e) (frT_FX12_stepKept_73 _  _ (EQ_s rfl e)))
theorem frT_FX12_stepKept_48 {h0 : ph_H} (x1 : Int32) (x3 : Int32) (h : ph_H) (e : EQ pT h0 h) : EQ pT h0 (FX12_stepKept_48 x1 x3 h) := (frT_FX12_stepKept_53 _ _  _ (frT_FX12_step _  _ e))
theorem frT_FX12_stepKept {h0 : ph_H} (a0 : Int32) (h : ph_H) (e : EQ pT h0 h) : EQ pT h0 (FX12_stepKept a0 h) := (EQ_if (frT_FX12_stepKept_48 _ _  _ e) (frT_FX12_stepKept_48 _ _  _ (EQ_s rfl (EQ_s rfl (EQ_s rfl e)))))
def pK4 (k i : Nat) : Bool := match k with
  | 25 => false
  | 26 => false
  | 27 => false
  | 28 => false
  | _ => true
theorem fr4_FX12_keep_171 {h0 : ph_H}  : ∀ (q : Nat) (y0 : Int32) (y1 : Int32) (h : ph_H), EQ pK4 h0 h → EQ pK4 h0 (FX12_keep_171  q y0 y1 h) := by
  intro q
  induction q with
  | zero =>
    intro y0 y1 h e
    exact e
  | succ q ih =>
    intro y0 y1 h e
    exact (EQ_if e (ih _ _ _ (EQ_s rfl e)))
theorem fr4_FX12_keep_104 {h0 : ph_H}  : ∀ (q : Nat) (y0 : Int32) (y1 : Int32) (h : ph_H), EQ pK4 h0 h → EQ pK4 h0 (FX12_keep_104  q y0 y1 h) := by
  intro q
  induction q with
  | zero =>
    intro y0 y1 h e
    exact e
  | succ q ih =>
    intro y0 y1 h e
    exact (EQ_if (fr4_FX12_keep_171   _ _ _ _ e) (ih _ _ _ (EQ_s rfl (EQ_s rfl (EQ_s rfl e)))))
