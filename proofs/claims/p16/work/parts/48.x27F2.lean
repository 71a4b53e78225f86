def pW (k i : Nat) : Bool := match k with
  | 0 => i == 25 || i == 23
  | 1 => true
  | 2 => true
  | 3 => true
  | 4 => true
  | 5 => true
  | 12 => true
  | _ => false
theorem frW_FX12_set {h0 : ph_H} (a0 : Int32) (a1 : Int32) (a2 : Int32) (h : ph_H) (e : EQ pW h0 h) : EQ pW h0 (FX12_set a0 a1 a2 h) := (EQ_s rfl (EQ_s rfl e))
theorem frW_FX12_newThing_29 {h0 : ph_H}  : ∀ (q : Nat) (y0 : Int32) (y1 : Int32) (h : ph_H), EQ pW h0 h → EQ pW h0 (FX12_newThing_29  q y0 y1 h).2 := by
  intro q
  induction q with
  | zero =>
    intro y0 y1 h e
    exact e
  | succ q ih =>
    intro y0 y1 h e
    exact (EQ2_if (EQ_s rfl e) (ih _ _ _ (EQ_s rfl e)))
theorem frW_FX12_newThing {h0 : ph_H} (a0 : Int32) (a1 : Int32) (h : ph_H) (e : EQ pW h0 h) : EQ pW h0 (FX12_newThing a0 a1 h).2 := (frW_FX12_newThing_29   _ _ _ _ (EQ_s rfl (EQ_s rfl (EQ_s rfl e))))
theorem frW_FX12_work_88 {h0 : ph_H}  (h : ph_H) (e : EQ pW h0 h) : EQ pW h0 (FX12_work_88 h) := e
theorem frW_FX12_work_111 {h0 : ph_H}  (h : ph_H) (e : EQ pW h0 h) : EQ pW h0 (FX12_work_111 h) := e
theorem frW_FX12_work_134 {h0 : ph_H}  (h : ph_H) (e : EQ pW h0 h) : EQ pW h0 (FX12_work_134 h) := e
theorem frW_FX12_work_155 {h0 : ph_H}  (h : ph_H) (e : EQ pW h0 h) : EQ pW h0 (FX12_work_155 h) := e
theorem frW_FX12_work_152 {h0 : ph_H} (s0 : Int32) (s1 : Int32) (s2 : Int32) (h : ph_H) (e : EQ pW h0 h) : EQ pW h0 (FX12_work_152 s0 s1 s2 h) := (frW_FX12_work_155   _ (frW_FX12_set _ _ _  _ e))
theorem frW_FX12_work_212 {h0 : ph_H}  (h : ph_H) (e : EQ pW h0 h) : EQ pW h0 (FX12_work_212 h) := e
theorem frW_FX12_work_435 {h0 : ph_H} (L391 : Int32 → Int32 → ph_H → ph_H) (x3 : Int32) (x6 : Int32) (hL391 : ∀ (y0 : Int32) (y1 : Int32) (h : ph_H), EQ pW h0 h → EQ pW h0 (L391 y0 y1 h)) (h : ph_H) (e : EQ pW h0 h) : EQ pW h0 (FX12_work_435 L391 x3 x6 h) := (hL391 _ _ _ e)
theorem frW_FX12_work_391 {h0 : ph_H}  : ∀ (q : Nat) (y0 : Int32) (y1 : Int32) (h : ph_H), EQ pW h0 h → EQ pW h0 (FX12_work_391  q y0 y1 h) := by
  intro q
  induction q with
  | zero =>
    intro y0 y1 h e
    exact e
  | succ q ih =>
    intro y0 y1 h e
    exact (EQ_if e (EQ_if (frW_FX12_work_435 _ _ _ ih _ (EQ_s rfl (EQ_s rfl e))) (frW_FX12_work_435 _ _ _ ih _ e)))
theorem frW_FX12_work {h0 : ph_H} (a0 : Int32) (a1 : Int32) (a2 : Int32) (a3 : Int32) (a4 : Int32) (h : ph_H) (e : EQ pW h0 h) : EQ pW h0 (FX12_work a0 a1 a2 a3 a4 h) := (EQ_if (frW_FX12_work_88   _ (frW_FX12_set _ _ _  _ e)) (EQ_if (frW_FX12_work_111   _ (frW_FX12_set _ _ _  _ e)) (EQ_if (frW_FX12_work_134   _ (frW_FX12_set _ _ _  _ e)) (EQ_if e (EQ_if e (EQ_if (frW_FX12_work_152 _ _ _  _ (frW_FX12_newThing _ _  _ e)) (EQ_if (frW_FX12_work_212   _ (frW_FX12_set _ _ _  _ (EQ_s rfl e))) (EQ_if (EQ_s rfl (EQ_s rfl e)) (EQ_if e (EQ_if (EQ_s rfl (EQ_s rfl (EQ_s rfl e))) (EQ_if (EQ_s rfl (EQ_s rfl (EQ_s rfl e))) (EQ_if (EQ_s rfl (EQ_s rfl (EQ_s rfl (EQ_s rfl e)))) (EQ_if (frW_FX12_work_391   _ _ _ _ (EQ_s rfl (EQ_s rfl e))) e)))))))))))))
def pX (k i : Nat) : Bool := match k with
  | 0 => i == 25
  | 1 => true
  | 2 => true
  | 3 => true
  | 4 => true
  | 5 => true
  | 12 => true
  | 14 => true
  | 15 => true
  | _ => false
theorem frX_FX12_set {h0 : ph_H} (a0 : Int32) (a1 : Int32) (a2 : Int32) (h : ph_H) (e : EQ pX h0 h) : EQ pX h0 (FX12_set a0 a1 a2 h) := (EQ_s rfl (EQ_s rfl e))
theorem frX_FX12_newThing_29 {h0 : ph_H}  : ∀ (q : Nat) (y0 : Int32) (y1 : Int32) (h : ph_H), EQ pX h0 h → EQ pX h0 (FX12_newThing_29  q y0 y1 h).2 := by
  intro q
  induction q with
  | zero =>
    intro y0 y1 h e
    exact e
  | succ q ih =>
    intro y0 y1 h e
    exact (EQ2_if (EQ_s rfl e) (ih _ _ _ (EQ_s rfl e)))
theorem frX_FX12_newThing {h0 : ph_H} (a0 : Int32) (a1 : Int32) (h : ph_H) (e : EQ pX h0 h) : EQ pX h0 (FX12_newThing a0 a1 h).2 := (frX_FX12_newThing_29   _ _ _ _ (EQ_s rfl (EQ_s rfl (EQ_s rfl e))))
theorem frX_FX12_workPlain_116 {h0 : ph_H}  (h : ph_H) (e : EQ pX h0 h) : EQ pX h0 (FX12_workPlain_116 h) := e
theorem frX_FX12_workPlain_153 {h0 : ph_H}  (h : ph_H) (e : EQ pX h0 h) : EQ pX h0 (FX12_workPlain_153 h) := e
theorem frX_FX12_workPlain_191 {h0 : ph_H}  (h : ph_H) (e : EQ pX h0 h) : EQ pX h0 (FX12_workPlain_191 h) := e
theorem frX_FX12_workPlain_222 {h0 : ph_H}  (h : ph_H) (e : EQ pX h0 h) : EQ pX h0 (FX12_workPlain_222 h) := e
theorem frX_FX12_workPlain_219 {h0 : ph_H} (s0 : Int32) (s1 : Int32) (s2 : Int32) (h : ph_H) (e : EQ pX h0 h) : EQ pX h0 (FX12_workPlain_219 s0 s1 s2 h) := (frX_FX12_workPlain_222   _ (frX_FX12_set _ _ _  _ e))
theorem frX_FX12_workPlain_206 {h0 : ph_H} (x3 : Int32) (s0 : Int32) (h : ph_H) (e : EQ pX h0 h) : EQ pX h0 (FX12_workPlain_206 x3 s0 h) := (frX_FX12_workPlain_219 _ _ _  _ (frX_FX12_newThing _ _  _ e))
theorem frX_FX12_workPlain_259 {h0 : ph_H}  (h : ph_H) (e : EQ pX h0 h) : EQ pX h0 (FX12_workPlain_259 h) := (EQ_s rfl e)
theorem frX_FX12_workPlain_256 {h0 : ph_H} (s0 : Int32) (s1 : Int32) (s2 : Int32) (h : ph_H) (e : EQ pX h0 h) : EQ pX h0 (FX12_workPlain_256 s0 s1 s2 h) := (frX_FX12_workPlain_259   _ (frX_FX12_set _ _ _  _ e))
theorem frX_FX12_workPlain {h0 : ph_H} (a0 : Int32) (a1 : Int32) (a2 : Int32) (a3 : Int32) (h : ph_H) (e : EQ pX h0 h) : EQ pX h0 (FX12_workPlain a0 a1 a2 a3 h) := (EQ_if (frX_FX12_workPlain_116   _ (frX_FX12_set _ _ _  _ e)) (EQ_if (frX_FX12_workPlain_153   _ (frX_FX12_set _ _ _  _ (EQ_s rfl e))) (EQ_if (frX_FX12_workPlain_191   _ (frX_FX12_set _ _ _  _ (EQ_s rfl e))) (EQ_if e (EQ_if e (EQ_if e (EQ_if e (EQ_if e (EQ_if e (EQ_if e (EQ_if e (EQ_if (EQ_if (frX_FX12_workPlain_206 _ _  _ e) (frX_FX12_workPlain_206 _ _  _ e)) (EQ_if e (EQ_if e (EQ_if e (EQ_if e (EQ_if (EQ_if (frX_FX12_workPlain_256 _ _ _  _ e) (frX_FX12_workPlain_256 _ _ _  _ e)) (EQ_if (EQ_s rfl (EQ_s rfl (EQ_s rfl e))) e))))))))))))))))))
def pY (k i : Nat) : Bool := match k with
  | 10 => true
  | 11 => true
  | _ => false
theorem frY_FX12_newThing_29 {h0 : ph_H}  : ∀ (q : Nat) (y0 : Int32) (y1 : Int32) (h : ph_H), EQ pY h0 h → EQ pY h0 (FX12_newThing_29  q y0 y1 h).2 := by
  intro q
  induction q with
  | zero =>
    intro y0 y1 h e
    exact e
  | succ q ih =>
    intro y0 y1 h e
    exact (EQ2_if (EQ_s rfl e) (ih _ _ _ (EQ_s rfl e)))
theorem frY_FX12_newThing {h0 : ph_H} (a0 : Int32) (a1 : Int32) (h : ph_H) (e : EQ pY h0 h) : EQ pY h0 (FX12_newThing a0 a1 h).2 := (frY_FX12_newThing_29   _ _ _ _ (EQ_s rfl (EQ_s rfl (EQ_s rfl e))))
theorem frY_FX12_work_435 {h0 : ph_H} (L391 : Int32 → Int32 → ph_H → ph_H) (x3 : Int32) (x6 : Int32) (hL391 : ∀ (y0 : Int32) (y1 : Int32) (h : ph_H), EQ pY h0 h → EQ pY h0 (L391 y0 y1 h)) (h : ph_H) (e : EQ pY h0 h) : EQ pY h0 (FX12_work_435 L391 x3 x6 h) := (hL391 _ _ _ e)
theorem frY_FX12_work_391 {h0 : ph_H}  : ∀ (q : Nat) (y0 : Int32) (y1 : Int32) (h : ph_H), EQ pY h0 h → EQ pY h0 (FX12_work_391  q y0 y1 h) := by
  intro q
  induction q with
  | zero =>
    intro y0 y1 h e
    exact e
  | succ q ih =>
    intro y0 y1 h e
    exact (EQ_if e (EQ_if (frY_FX12_work_435 _ _ _ ih _ (EQ_s rfl (EQ_s rfl e))) (frY_FX12_work_435 _ _ _ ih _ e)))
