def pC (k i : Nat) : Bool := match k with
  | 0 => i == 8 || i == 10
  | 1 => i == 6 || i == 7
  | 2 => true
  | 3 => true
  | 4 => true
  | 5 => true
  | 6 => true
  | 7 => true
  | 8 => true
  | 9 => true
  | 10 => true
  | 11 => true
  | 12 => true
  | 13 => true
  | 14 => true
  | 35 => true
  | 36 => true
  | 37 => true
  | 38 => true
  | 39 => true
  | 40 => true
  | 41 => true
  | 42 => true
  | 43 => true
  | 44 => true
  | 45 => true
  | 46 => true
  | _ => false
theorem pC_57 (n i : Nat) : pC (57 + n) i = false := by
  unfold pC
  split <;> first | omega | rfl
theorem frC_FX3_hold_s {h0 : ph_H} (a0 : Int32) (a1 : Int32) (a2 : Int32) (h : ph_H) (e : EQ pC h0 h) : EQ pC h0 (FX3_hold_s a0 a1 a2 h).2 := (EQ_s rfl (EQ_s rfl e))
theorem frC_FX3_getCell_s {h0 : ph_H} (a0 : Int32) (a1 : Int32) (h : ph_H) (e : EQ pC h0 h) : EQ pC h0 (FX3_getCell_s a0 a1 h).2 := (frC_FX3_hold_s _ _ _  _ (EQ_s rfl e))
theorem frC_FX3_goTo_s {h0 : ph_H} (a0 : Int32) (h : ph_H) (e : EQ pC h0 h) : EQ pC h0 (FX3_goTo_s a0 h).2 := (EQ_s rfl e)
theorem frC_FX3_goUnless_s_25 {h0 : ph_H} (s0 : Int32) (h : ph_H) (e : EQ pC h0 h) : EQ pC h0 (FX3_goUnless_s_25 s0 h).2 := e
theorem frC_FX3_goUnless_s {h0 : ph_H} (a0 : Int32) (a1 : Int32) (h : ph_H) (e : EQ pC h0 h) : EQ pC h0 (FX3_goUnless_s a0 a1 h).2 := (EQ2_if (EQ2_if (frC_FX3_goUnless_s_25 _  _ (frC_FX3_goTo_s _  _ e)) e) e)
theorem frC_FX3_free_s {h0 : ph_H} (a0 : Int32) (h : ph_H) (e : EQ pC h0 h) : EQ pC h0 (FX3_free_s a0 h).2 := (EQ_s rfl (EQ_s rfl (EQ_s rfl e)))
theorem frC_FX3_leaveLock_s {h0 : ph_H} (a0 : Int32) (a1 : Int32) (h : ph_H) (e : EQ pC h0 h) : EQ pC h0 (FX3_leaveLock_s a0 a1 h).2 := (EQ2_if (EQ2_if (frC_FX3_free_s _  _ e) e) e)
theorem frC_FX3_lieDown_s {h0 : ph_H} (a0 : Int32) (a1 : Int32) (h : ph_H) (e : EQ pC h0 h) : EQ pC h0 (FX3_lieDown_s a0 a1 h).2 := (EQ2_if (EQ2_if (frC_FX3_free_s _  _ (EQ_s rfl (EQ_s rfl (EQ_s rfl e)))) e) e)
theorem frC_FX3_makeThing_s {h0 : ph_H} (a0 : Int32) (a1 : Int32) (a2 : Int32) (h : ph_H) (e : EQ pC h0 h) : EQ pC h0 (FX3_makeThing_s a0 a1 a2 h).2 := (EQ_s rfl (EQ_s rfl (EQ_s rfl (EQ_s rfl (EQ_s rfl (EQ_s rfl e))))))
theorem frC_FX3_makeLock_s_22 {h0 : ph_H} (s0 : Int32) (s1 : Int32) (h : ph_H) (e : EQ pC h0 h) : EQ pC h0 (FX3_makeLock_s_22 s0 s1 h).2 := (frC_FX3_makeThing_s _ _ _  _ e)
theorem frC_FX3_makeLock_s {h0 : ph_H} (a0 : Int32) (a1 : Int32) (h : ph_H) (e : EQ pC h0 h) : EQ pC h0 (FX3_makeLock_s a0 a1 h).2 := (EQ2_if (EQ2_if (frC_FX3_makeLock_s_22 _ _  _ e) (frC_FX3_makeLock_s_22 _ _  _ e)) e)
theorem frC_FX3_makeRow_s_44 {h0 : ph_H}  : ∀ (q : Nat) (y0 : Int32) (y1 : Int32) (y2 : Int32) (h : ph_H), EQ pC h0 h → EQ pC h0 (FX3_makeRow_s_44  q y0 y1 y2 h).2 := by
  intro q
  induction q with
  | zero =>
    intro y0 y1 y2 h e
    exact e
  | succ q ih =>
    intro y0 y1 y2 h e
    exact (EQ2_if (frC_FX3_makeThing_s _ _ _  _ e) (ih _ _ _ _ (EQ_s rfl e)))
theorem frC_FX3_makeRow_s {h0 : ph_H} (a0 : Int32) (a1 : Int32) (h : ph_H) (e : EQ pC h0 h) : EQ pC h0 (FX3_makeRow_s a0 a1 h).2 := (EQ2_if (EQ2_if (EQ2_if e (EQ2_if (frC_FX3_makeRow_s_44   _ _ _ _ _ e) e)) e) e)
theorem frC_FX3_putCell_s {h0 : ph_H} (a0 : Int32) (a1 : Int32) (h : ph_H) (e : EQ pC h0 h) : EQ pC h0 (FX3_putCell_s a0 a1 h).2 := (frC_FX3_hold_s _ _ _  _ (EQ_s rfl e))
theorem frC_FX3_readRow_s {h0 : ph_H} (a0 : Int32) (a1 : Int32) (a2 : Int32) (h : ph_H) (e : EQ pC h0 h) : EQ pC h0 (FX3_readRow_s a0 a1 a2 h).2 := (EQ2_if (EQ2_if (EQ2_if e (frC_FX3_hold_s _ _ _  _ (EQ_s rfl e))) e) e)
theorem frC_FX3_reckon_s_58 {h0 : ph_H} (x2 : Int32) (s0 : Int32) (h : ph_H) (e : EQ pC h0 h) : EQ pC h0 (FX3_reckon_s_58 x2 s0 h).2 := (frC_FX3_hold_s _ _ _  _ e)
theorem frC_FX3_reckon_s {h0 : ph_H} (a0 : Int32) (a1 : Int32) (a2 : Int32) (h : ph_H) (e : EQ pC h0 h) : EQ pC h0 (FX3_reckon_s a0 a1 a2 h).2 := (EQ2_if e (EQ2_if (frC_FX3_reckon_s_58 _ _  _ e) (EQ2_if (frC_FX3_reckon_s_58 _ _  _ e) (frC_FX3_reckon_s_58 _ _  _ e))))
theorem frC_FX3_startThread_s {h0 : ph_H} (a0 : Int32) (h : ph_H) (e : EQ pC h0 h) : EQ pC h0 (FX3_startThread_s a0 h).2 := (EQ2_if (EQ_s rfl (EQ_s rfl (EQ_s rfl e))) e)
theorem frC_FX3_takeInput_s {h0 : ph_H} (a0 : Int32) (h : ph_H) (e : EQ pC h0 h) : EQ pC h0 (FX3_takeInput_s a0 h).2 := (EQ2_if e (EQ2_if (frC_FX3_hold_s _ _ _  _ (EQ_s rfl e)) e))
theorem frC_FX3_own_s {h0 : ph_H} (a0 : Int32) (a1 : Int32) (h : ph_H) (e : EQ pC h0 h) : EQ pC h0 (FX3_own_s a0 a1 h).2 := (EQ_s rfl (EQ_s rfl (EQ_s rfl e)))
theorem frC_FX3_takeLock_s {h0 : ph_H} (a0 : Int32) (a1 : Int32) (h : ph_H) (e : EQ pC h0 h) : EQ pC h0 (FX3_takeLock_s a0 a1 h).2 := (EQ2_if (EQ2_if e (frC_FX3_own_s _ _  _ e)) e)
theorem frC_FX3_wakeSleepers_s_64 {h0 : ph_H} (L28 : Int32 → Int32 → ph_H → Int32 × ph_H) (x3 : Int32) (x4 : Int32) (hL28 : ∀ (y0 : Int32) (y1 : Int32) (h : ph_H), EQ pC h0 h → EQ pC h0 (L28 y0 y1 h).2) (h : ph_H) (e : EQ pC h0 h) : EQ pC h0 (FX3_wakeSleepers_s_64 L28 x3 x4 h).2 := (hL28 _ _ _ e)
theorem frC_FX3_wakeSleepers_s_28 {h0 : ph_H}  : ∀ (q : Nat) (y0 : Int32) (y1 : Int32) (h : ph_H), EQ pC h0 h → EQ pC h0 (FX3_wakeSleepers_s_28  q y0 y1 h).2 := by
  intro q
  induction q with
  | zero =>
    intro y0 y1 h e
    exact e
  | succ q ih =>
    intro y0 y1 h e
    exact (EQ2_if (EQ_s rfl e) (EQ2_if (EQ2_if (frC_FX3_wakeSleepers_s_64 _ _ _ ih _ (EQ_s rfl e)) (frC_FX3_wakeSleepers_s_64 _ _ _ ih _ e)) (frC_FX3_wakeSleepers_s_64 _ _ _ ih _ e)))
theorem frC_FX3_wakeSleepers_s {h0 : ph_H} (a0 : Int32) (a1 : Int32) (h : ph_H) (e : EQ pC h0 h) : EQ pC h0 (FX3_wakeSleepers_s a0 a1 h).2 := (EQ2_if (EQ2_if (frC_FX3_wakeSleepers_s_28   _ _ _ _ e) e) e)
theorem frC_FX3_writeRow_s {h0 : ph_H} (a0 : Int32) (a1 : Int32) (a2 : Int32) (h : ph_H) (e : EQ pC h0 h) : EQ pC h0 (FX3_writeRow_s a0 a1 a2 h).2 := (EQ2_if (EQ2_if e (EQ2_if e (EQ_s rfl (EQ_s rfl e)))) e)
theorem frC_FX3_perform_s_288 {h0 : ph_H} (s0 : Int32) (s1 : Int32) (h : ph_H) (e : EQ pC h0 h) : EQ pC h0 (FX3_perform_s_288 s0 s1 h).2 := (frC_FX3_makeLock_s _ _  _ e)
theorem frC_FX3_perform_s {h0 : ph_H} (a0 : Int32) (h : ph_H) (e : EQ pC h0 h) : EQ pC h0 (FX3_perform_s a0 h).2 := (EQ2_if (frC_FX3_hold_s _ _ _  _ e) (EQ2_if (frC_FX3_getCell_s _ _  _ e) (EQ2_if (frC_FX3_putCell_s _ _  _ e) (EQ2_if (frC_FX3_reckon_s _ _ _  _ e) (EQ2_if (frC_FX3_reckon_s _ _ _  _ e) (EQ2_if (frC_FX3_reckon_s _ _ _  _ e) (EQ2_if (frC_FX3_goTo_s _  _ e) (EQ2_if (frC_FX3_goUnless_s _ _  _ e) (EQ2_if (frC_FX3_makeRow_s _ _  _ e) (EQ2_if (frC_FX3_readRow_s _ _ _  _ e) (EQ2_if (frC_FX3_writeRow_s _ _ _  _ e) (EQ2_if (EQ2_if (frC_FX3_perform_s_288 _ _  _ e) (frC_FX3_perform_s_288 _ _  _ e)) (EQ2_if (frC_FX3_takeLock_s _ _  _ e) (EQ2_if (frC_FX3_leaveLock_s _ _  _ e) (EQ2_if (frC_FX3_lieDown_s _ _  _ e) (EQ2_if (frC_FX3_wakeSleepers_s _ _  _ e) (EQ2_if (frC_FX3_takeInput_s _  _ e) (EQ2_if (frC_FX3_startThread_s _  _ e) (EQ2_if e (frC_FX3_goTo_s _  _ e))))))))))))))))))))
theorem frC_FX3_rise_s {h0 : ph_H} (a0 : Int32) (h : ph_H) (e : EQ pC h0 h) : EQ pC h0 (FX3_rise_s a0 h).2 := (frC_FX3_own_s _ _  _ (EQ_s rfl e))
theorem frC_FX3_go_s_67 {h0 : ph_H} (x1 : Int32) (s0 : Int32) (h : ph_H) (e : EQ pC h0 h) : EQ pC h0 (FX3_go_s_67 x1 s0 h).2 := (EQ2_if (EQ_s rfl e) e)
theorem frC_FX3_go_s_59 {h0 : ph_H} (x1 : Int32) (s0 : Int32) (h : ph_H) (e : EQ pC h0 h) : EQ pC h0 (FX3_go_s_59 x1 s0 h).2 := (frC_FX3_go_s_67 _ _  _ e)
theorem frC_FX3_go_s {h0 : ph_H} (a0 : Int32) (h : ph_H) (e : EQ pC h0 h) : EQ pC h0 (FX3_go_s a0 h).2 := (EQ2_if e (EQ2_if (frC_FX3_go_s_59 _ _  _ (frC_FX3_rise_s _  _ (EQ_s rfl (EQ_s rfl (EQ_s rfl (EQ_s rfl (EQ_s rfl e))))))) (frC_FX3_go_s_67 _ _  _ (frC_FX3_perform_s _  _ (EQ_s rfl (EQ_s rfl (EQ_s rfl (EQ_s rfl (EQ_s rfl e)))))))))
theorem frC_FJ7_fill_53178_k16_5 {h0 : ph_H}  : ∀ (q : Nat) (y0 : Int32) (y1 : Int32) (y2 : Int32) (h : ph_H), EQ pC h0 h → EQ pC h0 (FJ7_fill_53178_k16_5  q y0 y1 y2 h) := by
  intro q
  induction q with
  | zero =>
    intro y0 y1 y2 h e
    exact e
  | succ q ih =>
    intro y0 y1 y2 h e
    exact (EQ_if e (ih _ _ _ _ (EQ_s rfl e)))
theorem frC_FJ7_fill_53178_k16 {h0 : ph_H} (a1 : Int32) (h : ph_H) (e : EQ pC h0 h) : EQ pC h0 (FJ7_fill_53178_k16 a1 h) := (frC_FJ7_fill_53178_k16_5   _ _ _ _ _ e)
theorem frC_FJ7_fill_53178_k17_5 {h0 : ph_H}  : ∀ (q : Nat) (y0 : Int32) (y1 : Int32) (y2 : Int32) (h : ph_H), EQ pC h0 h → EQ pC h0 (FJ7_fill_53178_k17_5  q y0 y1 y2 h) := by
  intro q
  induction q with
  | zero =>
    intro y0 y1 y2 h e
    exact e
  | succ q ih =>
    intro y0 y1 y2 h e
    exact (EQ_if e (ih _ _ _ _ (EQ_s rfl e)))
theorem frC_FJ7_fill_53178_k17 {h0 : ph_H} (a1 : Int32) (h : ph_H) (e : EQ pC h0 h) : EQ pC h0 (FJ7_fill_53178_k17 a1 h) := (frC_FJ7_fill_53178_k17_5   _ _ _ _ _ e)
theorem frC_FJ7_fill_53178_k18_5 {h0 : ph_H}  : ∀ (q : Nat) (y0 : Int32) (y1 : Int32) (y2 : Int32) (h : ph_H), EQ pC h0 h → EQ pC h0 (FJ7_fill_53178_k18_5  q y0 y1 y2 h) := by
  intro q
  induction q with
  | zero =>
    intro y0 y1 y2 h e
    exact e
  | succ q ih =>
    intro y0 y1 y2 h e
    exact (EQ_if e (ih _ _ _ _ (EQ_s rfl e)))
theorem frC_FJ7_fill_53178_k18 {h0 : ph_H} (a1 : Int32) (h : ph_H) (e : EQ pC h0 h) : EQ pC h0 (FJ7_fill_53178_k18 a1 h) := (frC_FJ7_fill_53178_k18_5   _ _ _ _ _ e)
theorem frC_FJ7_fill_53178_k19_5 {h0 : ph_H}  : ∀ (q : Nat) (y0 : Int32) (y1 : Int32) (y2 : Int32) (h : ph_H), EQ pC h0 h → EQ pC h0 (FJ7_fill_53178_k19_5  q y0 y1 y2 h) := by
  intro q
  induction q with
  | zero =>
    intro y0 y1 y2 h e
    exact e
  | succ q ih =>
    intro y0 y1 y2 h e
    exact (EQ_if e (ih _ _ _ _ (EQ_s rfl e)))
theorem frC_FJ7_fill_53178_k19 {h0 : ph_H} (a1 : Int32) (h : ph_H) (e : EQ pC h0 h) : EQ pC h0 (FJ7_fill_53178_k19 a1 h) := (frC_FJ7_fill_53178_k19_5   _ _ _ _ _ e)
theorem frC_FX3_begin_st_52 {h0 : ph_H} (x2 : Int32) (h : ph_H) (e : EQ pC h0 h) : EQ pC h0 (FX3_begin_st_52 x2 h) := (EQ_s rfl (EQ_s rfl (EQ_s rfl (EQ_s rfl e))))
theorem frC_FX3_begin_st_44 {h0 : ph_H} (x2 : Int32) (h : ph_H) (e : EQ pC h0 h) : EQ pC h0 (FX3_begin_st_44 x2 h) := (frC_FX3_begin_st_52 _  _ (frC_FJ7_fill_53178_k19 _  _ e))
theorem frC_FX3_begin_st_21 {h0 : ph_H} (x2 : Int32) (h : ph_H) (e : EQ pC h0 h) : EQ pC h0 (FX3_begin_st_21 x2 h) := (frC_FX3_begin_st_44 _  _ (frC_FJ7_fill_53178_k18 _  _ (EQ_c (fun _ => rfl) e)))
theorem frC_FX3_begin_st_13 {h0 : ph_H} (x2 : Int32) (h : ph_H) (e : EQ pC h0 h) : EQ pC h0 (FX3_begin_st_13 x2 h) := (frC_FX3_begin_st_21 _  _ (frC_FJ7_fill_53178_k17 _  _ e))
theorem frC_FX3_begin_st {h0 : ph_H} (a1 : Int32) (h : ph_H) (e : EQ pC h0 h) : EQ pC h0 (FX3_begin_st a1 h) := (frC_FX3_begin_st_13 _  _ (frC_FJ7_fill_53178_k16 _  _ e))
theorem frC_FX3_hold_oc1 {h0 : ph_H} (a0 : Int32) (a1 : Int32) (a2 : Int32) (h : ph_H) (e : EQ pC h0 h) : EQ pC h0 (FX3_hold_oc1 a0 a1 a2 h).2 := (EQ_s rfl (EQ_s rfl e))
theorem frC_FX3_getCell_oc1 {h0 : ph_H} (a0 : Int32) (a1 : Int32) (h : ph_H) (e : EQ pC h0 h) : EQ pC h0 (FX3_getCell_oc1 a0 a1 h).2 := (frC_FX3_hold_oc1 _ _ _  _ (EQ_s rfl e))
theorem frC_FX3_goTo_oc1 {h0 : ph_H} (a0 : Int32) (h : ph_H) (e : EQ pC h0 h) : EQ pC h0 (FX3_goTo_oc1 a0 h).2 := (EQ_s rfl e)
theorem frC_FX3_goUnless_oc1_25 {h0 : ph_H} (s0 : Int32) (h : ph_H) (e : EQ pC h0 h) : EQ pC h0 (FX3_goUnless_oc1_25 s0 h).2 := e
theorem frC_FX3_goUnless_oc1 {h0 : ph_H} (a0 : Int32) (a1 : Int32) (h : ph_H) (e : EQ pC h0 h) : EQ pC h0 (FX3_goUnless_oc1 a0 a1 h).2 := (EQ2_if (EQ2_if (frC_FX3_goUnless_oc1_25 _  _ (frC_FX3_goTo_oc1 _  _ e)) e) e)
theorem frC_FX3_free_oc1 {h0 : ph_H} (a0 : Int32) (h : ph_H) (e : EQ pC h0 h) : EQ pC h0 (FX3_free_oc1 a0 h).2 := (EQ_s rfl (EQ_s rfl (EQ_s rfl e)))
theorem frC_FX3_leaveLock_oc1 {h0 : ph_H} (a0 : Int32) (a1 : Int32) (h : ph_H) (e : EQ pC h0 h) : EQ pC h0 (FX3_leaveLock_oc1 a0 a1 h).2 := (EQ2_if (EQ2_if (frC_FX3_free_oc1 _  _ e) e) e)
theorem frC_FX3_lieDown_oc1 {h0 : ph_H} (a0 : Int32) (a1 : Int32) (h : ph_H) (e : EQ pC h0 h) : EQ pC h0 (FX3_lieDown_oc1 a0 a1 h).2 := (EQ2_if (EQ2_if (frC_FX3_free_oc1 _  _ (EQ_s rfl (EQ_s rfl (EQ_s rfl e)))) e) e)
theorem frC_FX3_makeThing_oc1 {h0 : ph_H} (a0 : Int32) (a1 : Int32) (a2 : Int32) (h : ph_H) (e : EQ pC h0 h) : EQ pC h0 (FX3_makeThing_oc1 a0 a1 a2 h).2 := (EQ_s rfl (EQ_s rfl (EQ_s rfl (EQ_s rfl (EQ_s rfl (EQ_s rfl e))))))
theorem frC_FX3_makeLock_oc1_22 {h0 : ph_H} (s0 : Int32) (s1 : Int32) (h : ph_H) (e : EQ pC h0 h) : EQ pC h0 (FX3_makeLock_oc1_22 s0 s1 h).2 := (frC_FX3_makeThing_oc1 _ _ _  _ e)
theorem frC_FX3_makeLock_oc1 {h0 : ph_H} (a0 : Int32) (a1 : Int32) (h : ph_H) (e : EQ pC h0 h) : EQ pC h0 (FX3_makeLock_oc1 a0 a1 h).2 := (EQ2_if (EQ2_if (frC_FX3_makeLock_oc1_22 _ _  _ e) (frC_FX3_makeLock_oc1_22 _ _  _ e)) e)
theorem frC_FX3_makeRow_oc1_44 {h0 : ph_H}  : ∀ (q : Nat) (y0 : Int32) (y1 : Int32) (y2 : Int32) (h : ph_H), EQ pC h0 h → EQ pC h0 (FX3_makeRow_oc1_44  q y0 y1 y2 h).2 := by
  intro q
  induction q with
  | zero =>
    intro y0 y1 y2 h e
    exact e
  | succ q ih =>
    intro y0 y1 y2 h e
    exact (EQ2_if (frC_FX3_makeThing_oc1 _ _ _  _ e) (ih _ _ _ _ (EQ_s rfl e)))
theorem frC_FX3_makeRow_oc1 {h0 : ph_H} (a0 : Int32) (a1 : Int32) (h : ph_H) (e : EQ pC h0 h) : EQ pC h0 (FX3_makeRow_oc1 a0 a1 h).2 := (EQ2_if (EQ2_if (EQ2_if e (EQ2_if (frC_FX3_makeRow_oc1_44   _ _ _ _ _ e) e)) e) e)
theorem frC_FX3_putCell_oc1 {h0 : ph_H} (a0 : Int32) (a1 : Int32) (h : ph_H) (e : EQ pC h0 h) : EQ pC h0 (FX3_putCell_oc1 a0 a1 h).2 := (frC_FX3_hold_oc1 _ _ _  _ (EQ_s rfl e))
theorem frC_FX3_readRow_oc1 {h0 : ph_H} (a0 : Int32) (a1 : Int32) (a2 : Int32) (h : ph_H) (e : EQ pC h0 h) : EQ pC h0 (FX3_readRow_oc1 a0 a1 a2 h).2 := (EQ2_if (EQ2_if (EQ2_if e (frC_FX3_hold_oc1 _ _ _  _ (EQ_s rfl e))) e) e)
theorem frC_FX3_reckon_oc1_58 {h0 : ph_H} (x2 : Int32) (s0 : Int32) (h : ph_H) (e : EQ pC h0 h) : EQ pC h0 (FX3_reckon_oc1_58 x2 s0 h).2 := (frC_FX3_hold_oc1 _ _ _  _ e)
theorem frC_FX3_reckon_oc1 {h0 : ph_H} (a0 : Int32) (a1 : Int32) (a2 : Int32) (h : ph_H) (e : EQ pC h0 h) : EQ pC h0 (FX3_reckon_oc1 a0 a1 a2 h).2 := (EQ2_if e (EQ2_if (frC_FX3_reckon_oc1_58 _ _  _ e) (EQ2_if (frC_FX3_reckon_oc1_58 _ _  _ e) (frC_FX3_reckon_oc1_58 _ _  _ e))))
theorem frC_FX3_startThread_oc1 {h0 : ph_H} (a0 : Int32) (h : ph_H) (e : EQ pC h0 h) : EQ pC h0 (FX3_startThread_oc1 a0 h).2 := (EQ2_if (EQ_s rfl (EQ_s rfl (EQ_s rfl e))) e)
theorem frC_FX3_takeInput_oc1 {h0 : ph_H} (a0 : Int32) (h : ph_H) (e : EQ pC h0 h) : EQ pC h0 (FX3_takeInput_oc1 a0 h).2 := (EQ2_if e (EQ2_if (frC_FX3_hold_oc1 _ _ _  _ (EQ_s rfl e)) e))
theorem frC_FX3_own_oc1 {h0 : ph_H} (a0 : Int32) (a1 : Int32) (h : ph_H) (e : EQ pC h0 h) : EQ pC h0 (FX3_own_oc1 a0 a1 h).2 := (EQ_s rfl (EQ_s rfl (EQ_s rfl e)))
theorem frC_FX3_takeLock_oc1 {h0 : ph_H} (a0 : Int32) (a1 : Int32) (h : ph_H) (e : EQ pC h0 h) : EQ pC h0 (FX3_takeLock_oc1 a0 a1 h).2 := (EQ2_if (EQ2_if e (frC_FX3_own_oc1 _ _  _ e)) e)
theorem frC_FX3_wakeSleepers_oc1_64 {h0 : ph_H} (L28 : Int32 → Int32 → ph_H → Int32 × ph_H) (x3 : Int32) (x4 : Int32) (hL28 : ∀ (y0 : Int32) (y1 : Int32) (h : ph_H), EQ pC h0 h → EQ pC h0 (L28 y0 y1 h).2) (h : ph_H) (e : EQ pC h0 h) : EQ pC h0 (FX3_wakeSleepers_oc1_64 L28 x3 x4 h).2 := (hL28 _ _ _ e)
theorem frC_FX3_wakeSleepers_oc1_28 {h0 : ph_H}  : ∀ (q : Nat) (y0 : Int32) (y1 : Int32) (h : ph_H), EQ pC h0 h → EQ pC h0 (FX3_wakeSleepers_oc1_28  q y0 y1 h).2 := by
  intro q
  induction q with
  | zero =>
    intro y0 y1 h e
    exact e
  | succ q ih =>
    intro y0 y1 h e
    exact (EQ2_if (EQ_s rfl e) (EQ2_if (EQ2_if (frC_FX3_wakeSleepers_oc1_64 _ _ _ ih _ (EQ_s rfl e)) (frC_FX3_wakeSleepers_oc1_64 _ _ _ ih _ e)) (frC_FX3_wakeSleepers_oc1_64 _ _ _ ih _ e)))
theorem frC_FX3_wakeSleepers_oc1 {h0 : ph_H} (a0 : Int32) (a1 : Int32) (h : ph_H) (e : EQ pC h0 h) : EQ pC h0 (FX3_wakeSleepers_oc1 a0 a1 h).2 := (EQ2_if (EQ2_if (frC_FX3_wakeSleepers_oc1_28   _ _ _ _ e) e) e)
theorem frC_FX3_writeRow_oc1 {h0 : ph_H} (a0 : Int32) (a1 : Int32) (a2 : Int32) (h : ph_H) (e : EQ pC h0 h) : EQ pC h0 (FX3_writeRow_oc1 a0 a1 a2 h).2 := (EQ2_if (EQ2_if e (EQ2_if e (EQ_s rfl (EQ_s rfl e)))) e)
theorem frC_FX3_perform_oc1_288 {h0 : ph_H} (s0 : Int32) (s1 : Int32) (h : ph_H) (e : EQ pC h0 h) : EQ pC h0 (FX3_perform_oc1_288 s0 s1 h).2 := (frC_FX3_makeLock_oc1 _ _  _ e)
theorem frC_FX3_perform_oc1 {h0 : ph_H} (a0 : Int32) (h : ph_H) (e : EQ pC h0 h) : EQ pC h0 (FX3_perform_oc1 a0 h).2 := (EQ2_if (frC_FX3_hold_oc1 _ _ _  _ e) (EQ2_if (frC_FX3_getCell_oc1 _ _  _ e) (EQ2_if (frC_FX3_putCell_oc1 _ _  _ e) (EQ2_if (frC_FX3_reckon_oc1 _ _ _  _ e) (EQ2_if (frC_FX3_reckon_oc1 _ _ _  _ e) (EQ2_if (frC_FX3_reckon_oc1 _ _ _  _ e) (EQ2_if (frC_FX3_goTo_oc1 _  _ e) (EQ2_if (frC_FX3_goUnless_oc1 _ _  _ e) (EQ2_if (frC_FX3_makeRow_oc1 _ _  _ e) (EQ2_if (frC_FX3_readRow_oc1 _ _ _  _ e) (EQ2_if (frC_FX3_writeRow_oc1 _ _ _  _ e) (EQ2_if (EQ2_if (frC_FX3_perform_oc1_288 _ _  _ e) (frC_FX3_perform_oc1_288 _ _  _ e)) (EQ2_if (frC_FX3_takeLock_oc1 _ _  _ e) (EQ2_if (frC_FX3_leaveLock_oc1 _ _  _ e) (EQ2_if (frC_FX3_lieDown_oc1 _ _  _ e) (EQ2_if (frC_FX3_wakeSleepers_oc1 _ _  _ e) (EQ2_if (frC_FX3_takeInput_oc1 _  _ e) (EQ2_if (frC_FX3_startThread_oc1 _  _ e) (EQ2_if e (frC_FX3_goTo_oc1 _  _ e))))))))))))))))))))
theorem frC_FX3_rise_oc1 {h0 : ph_H} (a0 : Int32) (h : ph_H) (e : EQ pC h0 h) : EQ pC h0 (FX3_rise_oc1 a0 h).2 := (frC_FX3_own_oc1 _ _  _ (EQ_s rfl e))
theorem frC_FX3_go_oc1_67 {h0 : ph_H} (x1 : Int32) (s0 : Int32) (h : ph_H) (e : EQ pC h0 h) : EQ pC h0 (FX3_go_oc1_67 x1 s0 h).2 := (EQ2_if (EQ_s rfl e) e)
theorem frC_FX3_go_oc1_59 {h0 : ph_H} (x1 : Int32) (s0 : Int32) (h : ph_H) (e : EQ pC h0 h) : EQ pC h0 (FX3_go_oc1_59 x1 s0 h).2 := (frC_FX3_go_oc1_67 _ _  _ e)
theorem frC_FX3_go_oc1 {h0 : ph_H} (a0 : Int32) (h : ph_H) (e : EQ pC h0 h) : EQ pC h0 (FX3_go_oc1 a0 h).2 := (EQ2_if e (EQ2_if (frC_FX3_go_oc1_59 _ _  _ (frC_FX3_rise_oc1 _  _ (EQ_s rfl (EQ_s rfl (EQ_s rfl (EQ_s rfl (EQ_s rfl e))))))) (frC_FX3_go_oc1_67 _ _  _ (frC_FX3_perform_oc1 _  _ (EQ_s rfl (EQ_s rfl (EQ_s rfl (EQ_s rfl (EQ_s rfl e)))))))))
theorem frC_FX11_goByRecordc1_120 {h0 : ph_H} (L37 : Int32 → Int32 → Int32 → Int32 → ph_H → Int32 × ph_H) (x1 : Int32) (x2 : Int32) (x3 : Int32) (x4 : Int32) (s0 : Int32) (hL37 : ∀ (y0 : Int32) (y1 : Int32) (y2 : Int32) (y3 : Int32) (h : ph_H), EQ pC h0 h → EQ pC h0 (L37 y0 y1 y2 y3 h).2) (h : ph_H) (e : EQ pC h0 h) : EQ pC h0 (FX11_goByRecordc1_120 L37 x1 x2 x3 x4 s0 h).2 := (EQ2_if e (EQ2_if e (EQ2_if (hL37 _ _ _ _ _ (EQ_s rfl e)) (EQ_s rfl e))))
theorem frC_FX11_goByRecordc1_106 {h0 : ph_H} (L37 : Int32 → Int32 → Int32 → Int32 → ph_H → Int32 × ph_H) (x1 : Int32) (x2 : Int32) (x3 : Int32) (x4 : Int32) (hL37 : ∀ (y0 : Int32) (y1 : Int32) (y2 : Int32) (y3 : Int32) (h : ph_H), EQ pC h0 h → EQ pC h0 (L37 y0 y1 y2 y3 h).2) (h : ph_H) (e : EQ pC h0 h) : EQ pC h0 (FX11_goByRecordc1_106 L37 x1 x2 x3 x4 h).2 := (EQ2_if (frC_FX11_goByRecordc1_120 _ _ _ _ _ _ hL37 _ (frC_FX3_go_oc1 _  _ e)) e)
theorem frC_FX11_goByRecordc1_88 {h0 : ph_H} (L37 : Int32 → Int32 → Int32 → Int32 → ph_H → Int32 × ph_H) (x1 : Int32) (x2 : Int32) (x3 : Int32) (x4 : Int32) (hL37 : ∀ (y0 : Int32) (y1 : Int32) (y2 : Int32) (y3 : Int32) (h : ph_H), EQ pC h0 h → EQ pC h0 (L37 y0 y1 y2 y3 h).2) (h : ph_H) (e : EQ pC h0 h) : EQ pC h0 (FX11_goByRecordc1_88 L37 x1 x2 x3 x4 h).2 := (EQ2_if (frC_FX11_goByRecordc1_106 _ _ _ _ _ hL37 _ e) (frC_FX11_goByRecordc1_106 _ _ _ _ _ hL37 _ e))
theorem frC_FX11_goByRecordc1_37 {h0 : ph_H}  : ∀ (q : Nat) (y0 : Int32) (y1 : Int32) (y2 : Int32) (y3 : Int32) (h : ph_H), EQ pC h0 h → EQ pC h0 (FX11_goByRecordc1_37  q y0 y1 y2 y3 h).2 := by
  intro q
  induction q with
  | zero =>
    intro y0 y1 y2 y3 h e
    exact e
  | succ q ih =>
    intro y0 y1 y2 y3 h e
    exact (EQ2_if (EQ2_if e e) (EQ2_if (frC_FX11_goByRecordc1_88 _ _ _ _ _ ih _ e) (EQ2_if (frC_FX11_goByRecordc1_88 _ _ _ _ _ ih _ e) (EQ2_if (frC_FX11_goByRecordc1_88 _ _ _ _ _ ih _ e) (frC_FX11_goByRecordc1_88 _ _ _ _ _ ih _ e)))))
theorem frC_FX11_goByRecordc1_30 {h0 : ph_H} (x1 : Int32) (x2 : Int32) (x3 : Int32) (s0 : Int32) (h : ph_H) (e : EQ pC h0 h) : EQ pC h0 (FX11_goByRecordc1_30 x1 x2 x3 s0 h).2 := (frC_FX11_goByRecordc1_37   _ _ _ _ _ _ (EQ_s rfl e))
theorem frC_FX11_goByRecordc1_29 {h0 : ph_H} (x1 : Int32) (x2 : Int32) (x3 : Int32) (h : ph_H) (e : EQ pC h0 h) : EQ pC h0 (FX11_goByRecordc1_29 x1 x2 x3 h).2 := (frC_FX11_goByRecordc1_30 _ _ _ _  _ e)
theorem frC_FX11_goByRecordc1 {h0 : ph_H} (a0 : Int32) (h : ph_H) (e : EQ pC h0 h) : EQ pC h0 (FX11_goByRecordc1 a0 h).2 := (EQ2_if (frC_FX11_goByRecordc1_29 _ _ _  _ e) (EQ2_if (frC_FX11_goByRecordc1_29 _ _ _  _ e) (frC_FX11_goByRecordc1_30 _ _ _ _  _ e)))
theorem frC_FJ7_fill_53178_k26_5 {h0 : ph_H}  : ∀ (q : Nat) (y0 : Int32) (y1 : Int32) (y2 : Int32) (h : ph_H), EQ pC h0 h → EQ pC h0 (FJ7_fill_53178_k26_5  q y0 y1 y2 h) := by
  intro q
  induction q with
  | zero =>
    intro y0 y1 y2 h e
    exact e
  | succ q ih =>
    intro y0 y1 y2 h e
    exact (EQ_if e (ih _ _ _ _ (EQ_s rfl e)))
theorem frC_FJ7_fill_53178_k26 {h0 : ph_H} (a1 : Int32) (h : ph_H) (e : EQ pC h0 h) : EQ pC h0 (FJ7_fill_53178_k26 a1 h) := (frC_FJ7_fill_53178_k26_5   _ _ _ _ _ e)
theorem frC_FJ7_fill_53178_k27_5 {h0 : ph_H}  : ∀ (q : Nat) (y0 : Int32) (y1 : Int32) (y2 : Int32) (h : ph_H), EQ pC h0 h → EQ pC h0 (FJ7_fill_53178_k27_5  q y0 y1 y2 h) := by
  intro q
  induction q with
  | zero =>
    intro y0 y1 y2 h e
    exact e
  | succ q ih =>
    intro y0 y1 y2 h e
    exact (EQ_if e (ih _ _ _ _ (EQ_s rfl e)))
theorem frC_FJ7_fill_53178_k27 {h0 : ph_H} (a1 : Int32) (h : ph_H) (e : EQ pC h0 h) : EQ pC h0 (FJ7_fill_53178_k27 a1 h) := (frC_FJ7_fill_53178_k27_5   _ _ _ _ _ e)
theorem frC_FJ7_fill_53178_k28_5 {h0 : ph_H}  : ∀ (q : Nat) (y0 : Int32) (y1 : Int32) (y2 : Int32) (h : ph_H), EQ pC h0 h → EQ pC h0 (FJ7_fill_53178_k28_5  q y0 y1 y2 h) := by
  intro q
  induction q with
  | zero =>
    intro y0 y1 y2 h e
    exact e
  | succ q ih =>
    intro y0 y1 y2 h e
    exact (EQ_if e (ih _ _ _ _ (EQ_s rfl e)))
theorem frC_FJ7_fill_53178_k28 {h0 : ph_H} (a1 : Int32) (h : ph_H) (e : EQ pC h0 h) : EQ pC h0 (FJ7_fill_53178_k28 a1 h) := (frC_FJ7_fill_53178_k28_5   _ _ _ _ _ e)
theorem frC_FJ7_fill_53178_k29_5 {h0 : ph_H}  : ∀ (q : Nat) (y0 : Int32) (y1 : Int32) (y2 : Int32) (h : ph_H), EQ pC h0 h → EQ pC h0 (FJ7_fill_53178_k29_5  q y0 y1 y2 h) := by
  intro q
  induction q with
  | zero =>
    intro y0 y1 y2 h e
    exact e
  | succ q ih =>
    intro y0 y1 y2 h e
    exact (EQ_if e (ih _ _ _ _ (EQ_s rfl e)))
theorem frC_FJ7_fill_53178_k29 {h0 : ph_H} (a1 : Int32) (h : ph_H) (e : EQ pC h0 h) : EQ pC h0 (FJ7_fill_53178_k29 a1 h) := (frC_FJ7_fill_53178_k29_5   _ _ _ _ _ e)
theorem frC_FX3_begin_on_52 {h0 : ph_H} (x2 : Int32) (h : ph_H) (e : EQ pC h0 h) : EQ pC h0 (FX3_begin_on_52 x2 h) := (EQ_s rfl (EQ_s rfl (EQ_s rfl (EQ_s rfl e))))
theorem frC_FX3_begin_on_44 {h0 : ph_H} (x2 : Int32) (h : ph_H) (e : EQ pC h0 h) : EQ pC h0 (FX3_begin_on_44 x2 h) := (frC_FX3_begin_on_52 _  _ (frC_FJ7_fill_53178_k29 _  _ e))
theorem frC_FX3_begin_on_21 {h0 : ph_H} (x2 : Int32) (h : ph_H) (e : EQ pC h0 h) : EQ pC h0 (FX3_begin_on_21 x2 h) := (frC_FX3_begin_on_44 _  _ (frC_FJ7_fill_53178_k28 _  _ (EQ_c (fun _ => rfl) e)))
theorem frC_FX3_begin_on_13 {h0 : ph_H} (x2 : Int32) (h : ph_H) (e : EQ pC h0 h) : EQ pC h0 (FX3_begin_on_13 x2 h) := (frC_FX3_begin_on_21 _  _ (frC_FJ7_fill_53178_k27 _  _ e))
theorem frC_FX3_begin_on {h0 : ph_H} (a1 : Int32) (h : ph_H) (e : EQ pC h0 h) : EQ pC h0 (FX3_begin_on a1 h) := (frC_FX3_begin_on_13 _  _ (frC_FJ7_fill_53178_k26 _  _ e))
theorem frC_FX11_play_54 {h0 : ph_H} (x1 : Int32) (h : ph_H) (e : EQ pC h0 h) : EQ pC h0 (FX11_play_54 x1 h).2 := (EQ_s rfl (frC_FX11_goByRecordc1 _  _ e))
theorem frC_FX11_play {h0 : ph_H} (a0 : Int32) (a1 : Int32) (h : ph_H) (e : EQ pC h0 h) : EQ pC h0 (FX11_play a0 a1 h).2 := (EQ2_if e (EQ2_if e (EQ2_if e (EQ2_if e (EQ2_if (frC_FX11_play_54 _  _ (frC_FX3_begin_on _  _ e)) e)))))
theorem frC_FX11_replay_s_33 {h0 : ph_H} (L3 : Int32 → Int32 → ph_H → ph_H) (x3 : Int32) (x4 : Int32) (s0 : Int32) (hL3 : ∀ (y0 : Int32) (y1 : Int32) (h : ph_H), EQ pC h0 h → EQ pC h0 (L3 y0 y1 h)) (h : ph_H) (e : EQ pC h0 h) : EQ pC h0 (FX11_replay_s_33 L3 x3 x4 s0 h) := (hL3 _ _ _ e)
theorem frC_FX11_replay_s_3 {h0 : ph_H}  : ∀ (q : Nat) (y0 : Int32) (y1 : Int32) (h : ph_H), EQ pC h0 h → EQ pC h0 (FX11_replay_s_3  q y0 y1 h) := by
  intro q
  induction q with
  | zero =>
    intro y0 y1 h e
    exact e
  | succ q ih =>
    intro y0 y1 h e
    exact (EQ_if e (EQ_if e (frC_FX11_replay_s_33 _ _ _ _ ih _ (frC_FX3_go_s _  _ e))))
theorem frC_FX11_replay_s {h0 : ph_H} (a1 : Int32) (a2 : Int32) (h : ph_H) (e : EQ pC h0 h) : EQ pC h0 (FX11_replay_s a1 a2 h) := (frC_FX11_replay_s_3   _ _ _ _ e)
theorem frC_FX11_seenBehind_44 {h0 : ph_H} (x1 : Int32) (h : ph_H) (e : EQ pC h0 h) : EQ pC h0 (FX11_seenBehind_44 x1 h) := (EQ_s rfl e)
theorem frC_FX11_seenBehind_31 {h0 : ph_H} (x1 : Int32) (h : ph_H) (e : EQ pC h0 h) : EQ pC h0 (FX11_seenBehind_31 x1 h) := (frC_FX11_seenBehind_44 _  _ (frC_FX11_replay_s _ _  _ e))
theorem frC_FX11_seenBehind_26 {h0 : ph_H} (x1 : Int32) (h : ph_H) (e : EQ pC h0 h) : EQ pC h0 (FX11_seenBehind_26 x1 h) := (frC_FX11_seenBehind_31 _  _ (EQ_s rfl e))
theorem frC_FX11_seenBehind {h0 : ph_H} (a0 : Int32) (h : ph_H) (e : EQ pC h0 h) : EQ pC h0 (FX11_seenBehind a0 h) := (EQ_if (frC_FX11_seenBehind_31 _  _ e) (frC_FX11_seenBehind_26 _  _ (frC_FX3_begin_st _  _ e)))
theorem frC_FX11_thing_18 {h0 : ph_H} (x1 : Int32) (x2 : Int32) (h : ph_H) (e : EQ pC h0 h) : EQ pC h0 (FX11_thing_18 x1 x2 h).2 := (EQ2_if e (EQ2_if e (EQ2_if (EQ2_if e (EQ2_if e e)) e)))
theorem frC_FX11_thing {h0 : ph_H} (a0 : Int32) (a1 : Int32) (h : ph_H) (e : EQ pC h0 h) : EQ pC h0 (FX11_thing a0 a1 h).2 := (EQ2_if e (frC_FX11_thing_18 _ _  _ (frC_FX11_seenBehind _  _ e)))
theorem frC_FX11_thread_36 {h0 : ph_H} (x1 : Int32) (x2 : Int32) (h : ph_H) (e : EQ pC h0 h) : EQ pC h0 (FX11_thread_36 x1 x2 h).2 := (EQ2_if e e)
theorem frC_FX11_thread {h0 : ph_H} (a0 : Int32) (a1 : Int32) (h : ph_H) (e : EQ pC h0 h) : EQ pC h0 (FX11_thread a0 a1 h).2 := (EQ2_if e (EQ2_if e (EQ2_if e (EQ2_if (frC_FX11_thread_36 _ _  _ (frC_FX11_seenBehind _  _ e)) e))))
theorem frC_FJ7_fill_53178_k49_5 {h0 : ph_H}  : ∀ (q : Nat) (y0 : Int32) (y1 : Int32) (y2 : Int32) (h : ph_H), EQ pC h0 h → EQ pC h0 (FJ7_fill_53178_k49_5  q y0 y1 y2 h) := by
  intro q
  induction q with
  | zero =>
    intro y0 y1 y2 h e
    exact e
  | succ q ih =>
    intro y0 y1 y2 h e
    exact (EQ_if e (ih _ _ _ _ (EQ_s rfl e)))
theorem frC_FJ7_fill_53178_k49 {h0 : ph_H} (a1 : Int32) (h : ph_H) (e : EQ pC h0 h) : EQ pC h0 (FJ7_fill_53178_k49 a1 h) := (frC_FJ7_fill_53178_k49_5   _ _ _ _ _ e)
theorem frC_FJ7_fill_53178_k50_5 {h0 : ph_H}  : ∀ (q : Nat) (y0 : Int32) (y1 : Int32) (y2 : Int32) (h : ph_H), EQ pC h0 h → EQ pC h0 (FJ7_fill_53178_k50_5  q y0 y1 y2 h) := by
  intro q
  induction q with
  | zero =>
    intro y0 y1 y2 h e
    exact e
  | succ q ih =>
    intro y0 y1 y2 h e
    exact (EQ_if e (ih _ _ _ _ (EQ_s rfl e)))
theorem frC_FJ7_fill_53178_k50 {h0 : ph_H} (a1 : Int32) (h : ph_H) (e : EQ pC h0 h) : EQ pC h0 (FJ7_fill_53178_k50 a1 h) := (frC_FJ7_fill_53178_k50_5   _ _ _ _ _ e)
theorem frC_FX4_join_k49k49_3 {h0 : ph_H}  : ∀ (q : Nat) (y0 : Int32) (y1 : Int32) (y2 : Int32) (h : ph_H), EQ pC h0 h → EQ pC h0 (FX4_join_k49k49_3  q y0 y1 y2 h) := by
  intro q
  induction q with
  | zero =>
    intro y0 y1 y2 h e
    exact e
  | succ q ih =>
    intro y0 y1 y2 h e
    exact (EQ_if e (ih _ _ _ _ (EQ_s rfl e)))
theorem frC_FX4_join_k49k49 {h0 : ph_H} (a1 : Int32) (a3 : Int32) (h : ph_H) (e : EQ pC h0 h) : EQ pC h0 (FX4_join_k49k49 a1 a3 h) := (frC_FX4_join_k49k49_3   _ _ _ _ _ e)
theorem frC_FX4_join_k49k50_3 {h0 : ph_H}  : ∀ (q : Nat) (y0 : Int32) (y1 : Int32) (y2 : Int32) (h : ph_H), EQ pC h0 h → EQ pC h0 (FX4_join_k49k50_3  q y0 y1 y2 h) := by
  intro q
  induction q with
  | zero =>
    intro y0 y1 y2 h e
    exact e
  | succ q ih =>
    intro y0 y1 y2 h e
    exact (EQ_if e (ih _ _ _ _ (EQ_s rfl e)))
theorem frC_FX4_join_k49k50 {h0 : ph_H} (a1 : Int32) (a3 : Int32) (h : ph_H) (e : EQ pC h0 h) : EQ pC h0 (FX4_join_k49k50 a1 a3 h) := (frC_FX4_join_k49k50_3   _ _ _ _ _ e)
theorem frC_FX4_join_k50k49_3 {h0 : ph_H}  : ∀ (q : Nat) (y0 : Int32) (y1 : Int32) (y2 : Int32) (h : ph_H), EQ pC h0 h → EQ pC h0 (FX4_join_k50k49_3  q y0 y1 y2 h) := by
  intro q
  induction q with
  | zero =>
    intro y0 y1 y2 h e
    exact e
  | succ q ih =>
    intro y0 y1 y2 h e
    exact (EQ_if e (ih _ _ _ _ (EQ_s rfl e)))
theorem frC_FX4_join_k50k49 {h0 : ph_H} (a1 : Int32) (a3 : Int32) (h : ph_H) (e : EQ pC h0 h) : EQ pC h0 (FX4_join_k50k49 a1 a3 h) := (frC_FX4_join_k50k49_3   _ _ _ _ _ e)
theorem frC_FX4_learn_125 {h0 : ph_H} (x1 : Int32) (x2 : Int32) (h : ph_H) (e : EQ pC h0 h) : EQ pC h0 (FX4_learn_125 x1 x2 h) := (EQ_c (fun _ => rfl) e)
theorem frC_FX4_learn_67 {h0 : ph_H} (x1 : Int32) (x2 : Int32) (h : ph_H) (e : EQ pC h0 h) : EQ pC h0 (FX4_learn_67 x1 x2 h) := (frC_FX4_learn_125 _ _  _ e)
theorem frC_FX4_learn_96 {h0 : ph_H} (x1 : Int32) (x2 : Int32) (h : ph_H) (e : EQ pC h0 h) : EQ pC h0 (FX4_learn_96 x1 x2 h) := (frC_FX4_learn_125 _ _  _ e)
theorem frC_FX4_learn {h0 : ph_H} (a0 : Int32) (h : ph_H) (e : EQ pC h0 h) : EQ pC h0 (FX4_learn a0 h) := (EQ_if (frC_FX4_learn_67 _ _  _ (frC_FX4_join_k50k49 _ _  _ (EQ_s rfl e))) (EQ_if (frC_FX4_learn_96 _ _  _ (frC_FX4_join_k49k50 _ _  _ (EQ_s rfl e))) (EQ_if (frC_FX4_learn_125 _ _  _ (frC_FX4_join_k49k49 _ _  _ (EQ_s rfl e))) (frC_FX4_learn_125 _ _  _ (EQ_s rfl e)))))
theorem frC_FX4_prepare_47 {h0 : ph_H} (L31 : Int32 → ph_H → ph_H) (x1 : Int32) (hL31 : ∀ (y0 : Int32) (h : ph_H), EQ pC h0 h → EQ pC h0 (L31 y0 h)) (h : ph_H) (e : EQ pC h0 h) : EQ pC h0 (FX4_prepare_47 L31 x1 h) := (hL31 _ _ (EQ_s rfl (EQ_s rfl e)))
theorem frC_FX4_prepare_31 {h0 : ph_H}  : ∀ (q : Nat) (y0 : Int32) (h : ph_H), EQ pC h0 h → EQ pC h0 (FX4_prepare_31  q y0 h) := by
  intro q
  induction q with
  | zero =>
    intro y0 h e
    exact e
  | succ q ih =>
    intro y0 h e
    exact (EQ_if (EQ_s rfl e) (frC_FX4_prepare_47 _ _ ih _ (frC_FX4_learn _  _ e)))
theorem frC_FX4_prepare_24 {h0 : ph_H}  (h : ph_H) (e : EQ pC h0 h) : EQ pC h0 (FX4_prepare_24 h) := (frC_FX4_prepare_31   _ _ _ (EQ_s rfl e))
theorem frC_FX4_prepare_16 {h0 : ph_H}  (h : ph_H) (e : EQ pC h0 h) : EQ pC h0 (FX4_prepare_16 h) := (frC_FX4_prepare_24   _ (frC_FJ7_fill_53178_k50 _  _ e))
theorem frC_FX4_prepare {h0 : ph_H}  (h : ph_H) (e : EQ pC h0 h) : EQ pC h0 (FX4_prepare h) := (EQ_if (frC_FX4_prepare_16   _ (frC_FJ7_fill_53178_k49 _  _ e)) e)
theorem frC_FX11_ahead_40 {h0 : ph_H} (x1 : Int32) (x2 : Int32) (h : ph_H) (e : EQ pC h0 h) : EQ pC h0 (FX11_ahead_40 x1 x2 h).2 := (EQ2_if e e)
theorem frC_FX11_ahead {h0 : ph_H} (a0 : Int32) (a1 : Int32) (h : ph_H) (e : EQ pC h0 h) : EQ pC h0 (FX11_ahead a0 a1 h).2 := (EQ2_if e (EQ2_if e (EQ2_if e (EQ2_if (frC_FX11_ahead_40 _ _  _ (frC_FX4_prepare   _ e)) e))))
theorem frC_FX11_race_28 {h0 : ph_H} (x1 : Int32) (x2 : Int32) (h : ph_H) (e : EQ pC h0 h) : EQ pC h0 (FX11_race_28 x1 x2 h).2 := (EQ2_if e (EQ2_if e (EQ2_if (EQ2_if e (EQ2_if e e)) e)))
theorem frC_FX11_race {h0 : ph_H} (a0 : Int32) (a1 : Int32) (h : ph_H) (e : EQ pC h0 h) : EQ pC h0 (FX11_race a0 a1 h).2 := (EQ2_if e (EQ2_if e (EQ2_if (frC_FX11_race_28 _ _  _ (frC_FX4_prepare   _ e)) e)))
theorem frC_FX3_hold_oc2 {h0 : ph_H} (a0 : Int32) (a1 : Int32) (a2 : Int32) (h : ph_H) (e : EQ pC h0 h) : EQ pC h0 (FX3_hold_oc2 a0 a1 a2 h).2 := (EQ_s rfl (EQ_s rfl e))
theorem frC_FX3_getCell_oc2 {h0 : ph_H} (a0 : Int32) (a1 : Int32) (h : ph_H) (e : EQ pC h0 h) : EQ pC h0 (FX3_getCell_oc2 a0 a1 h).2 := (frC_FX3_hold_oc2 _ _ _  _ (EQ_s rfl e))
theorem frC_FX3_goTo_oc2 {h0 : ph_H} (a0 : Int32) (h : ph_H) (e : EQ pC h0 h) : EQ pC h0 (FX3_goTo_oc2 a0 h).2 := (EQ_s rfl e)
theorem frC_FX3_goUnless_oc2_25 {h0 : ph_H} (s0 : Int32) (h : ph_H) (e : EQ pC h0 h) : EQ pC h0 (FX3_goUnless_oc2_25 s0 h).2 := e
theorem frC_FX3_goUnless_oc2 {h0 : ph_H} (a0 : Int32) (a1 : Int32) (h : ph_H) (e : EQ pC h0 h) : EQ pC h0 (FX3_goUnless_oc2 a0 a1 h).2 := (EQ2_if (EQ2_if (frC_FX3_goUnless_oc2_25 _  _ (frC_FX3_goTo_oc2 _  _ e)) e) e)
theorem frC_FX3_free_oc2 {h0 : ph_H} (a0 : Int32) (h : ph_H) (e : EQ pC h0 h) : EQ pC h0 (FX3_free_oc2 a0 h).2 := (EQ_s rfl (EQ_s rfl (EQ_s rfl e)))
theorem frC_FX3_leaveLock_oc2 {h0 : ph_H} (a0 : Int32) (a1 : Int32) (h : ph_H) (e : EQ pC h0 h) : EQ pC h0 (FX3_leaveLock_oc2 a0 a1 h).2 := (EQ2_if (EQ2_if (frC_FX3_free_oc2 _  _ e) e) e)
theorem frC_FX3_lieDown_oc2 {h0 : ph_H} (a0 : Int32) (a1 : Int32) (h : ph_H) (e : EQ pC h0 h) : EQ pC h0 (FX3_lieDown_oc2 a0 a1 h).2 := (EQ2_if (EQ2_if (frC_FX3_free_oc2 _  _ (EQ_s rfl (EQ_s rfl (EQ_s rfl e)))) e) e)
theorem frC_FX3_makeThing_oc2 {h0 : ph_H} (a0 : Int32) (a1 : Int32) (a2 : Int32) (h : ph_H) (e : EQ pC h0 h) : EQ pC h0 (FX3_makeThing_oc2 a0 a1 a2 h).2 := (EQ_s rfl (EQ_s rfl (EQ_s rfl (EQ_s rfl (EQ_s rfl (EQ_s rfl e))))))
theorem frC_FX3_makeLock_oc2_22 {h0 : ph_H} (s0 : Int32) (s1 : Int32) (h : ph_H) (e : EQ pC h0 h) : EQ pC h0 (FX3_makeLock_oc2_22 s0 s1 h).2 := (frC_FX3_makeThing_oc2 _ _ _  _ e)
theorem frC_FX3_makeLock_oc2 {h0 : ph_H} (a0 : Int32) (a1 : Int32) (h : ph_H) (e : EQ pC h0 h) : EQ pC h0 (FX3_makeLock_oc2 a0 a1 h).2 := (EQ2_if (EQ2_if (frC_FX3_makeLock_oc2_22 _ _  _ e) (frC_FX3_makeLock_oc2_22 _ _  _ e)) e)
theorem frC_FX3_makeRow_oc2_44 {h0 : ph_H}  : ∀ (q : Nat) (y0 : Int32) (y1 : Int32) (y2 : Int32) (h : ph_H), EQ pC h0 h → EQ pC h0 (FX3_makeRow_oc2_44  q y0 y1 y2 h).2 := by
  intro q
  induction q with
  | zero =>
    intro y0 y1 y2 h e
    exact e
  | succ q ih =>
    intro y0 y1 y2 h e
    exact (EQ2_if (frC_FX3_makeThing_oc2 _ _ _  _ e) (ih _ _ _ _ (EQ_s rfl e)))
theorem frC_FX3_makeRow_oc2 {h0 : ph_H} (a0 : Int32) (a1 : Int32) (h : ph_H) (e : EQ pC h0 h) : EQ pC h0 (FX3_makeRow_oc2 a0 a1 h).2 := (EQ2_if (EQ2_if (EQ2_if e (EQ2_if (frC_FX3_makeRow_oc2_44   _ _ _ _ _ e) e)) e) e)
theorem frC_FX3_putCell_oc2 {h0 : ph_H} (a0 : Int32) (a1 : Int32) (h : ph_H) (e : EQ pC h0 h) : EQ pC h0 (FX3_putCell_oc2 a0 a1 h).2 := (frC_FX3_hold_oc2 _ _ _  _ (EQ_s rfl e))
theorem frC_FX3_readRow_oc2 {h0 : ph_H} (a0 : Int32) (a1 : Int32) (a2 : Int32) (h : ph_H) (e : EQ pC h0 h) : EQ pC h0 (FX3_readRow_oc2 a0 a1 a2 h).2 := (EQ2_if (EQ2_if (EQ2_if e (frC_FX3_hold_oc2 _ _ _  _ (EQ_s rfl e))) e) e)
theorem frC_FX3_reckon_oc2_58 {h0 : ph_H} (x2 : Int32) (s0 : Int32) (h : ph_H) (e : EQ pC h0 h) : EQ pC h0 (FX3_reckon_oc2_58 x2 s0 h).2 := (frC_FX3_hold_oc2 _ _ _  _ e)
theorem frC_FX3_reckon_oc2 {h0 : ph_H} (a0 : Int32) (a1 : Int32) (a2 : Int32) (h : ph_H) (e : EQ pC h0 h) : EQ pC h0 (FX3_reckon_oc2 a0 a1 a2 h).2 := (EQ2_if e (EQ2_if (frC_FX3_reckon_oc2_58 _ _  _ e) (EQ2_if (frC_FX3_reckon_oc2_58 _ _  _ e) (frC_FX3_reckon_oc2_58 _ _  _ e))))
theorem frC_FX3_startThread_oc2 {h0 : ph_H} (a0 : Int32) (h : ph_H) (e : EQ pC h0 h) : EQ pC h0 (FX3_startThread_oc2 a0 h).2 := (EQ2_if (EQ_s rfl (EQ_s rfl (EQ_s rfl e))) e)
theorem frC_FX3_takeInput_oc2 {h0 : ph_H} (a0 : Int32) (h : ph_H) (e : EQ pC h0 h) : EQ pC h0 (FX3_takeInput_oc2 a0 h).2 := (EQ2_if e (EQ2_if (frC_FX3_hold_oc2 _ _ _  _ (EQ_s rfl e)) e))
theorem frC_FX3_own_oc2 {h0 : ph_H} (a0 : Int32) (a1 : Int32) (h : ph_H) (e : EQ pC h0 h) : EQ pC h0 (FX3_own_oc2 a0 a1 h).2 := (EQ_s rfl (EQ_s rfl (EQ_s rfl e)))
theorem frC_FX3_takeLock_oc2 {h0 : ph_H} (a0 : Int32) (a1 : Int32) (h : ph_H) (e : EQ pC h0 h) : EQ pC h0 (FX3_takeLock_oc2 a0 a1 h).2 := (EQ2_if (EQ2_if e (frC_FX3_own_oc2 _ _  _ e)) e)
theorem frC_FX3_wakeSleepers_oc2_64 {h0 : ph_H} (L28 : Int32 → Int32 → ph_H → Int32 × ph_H) (x3 : Int32) (x4 : Int32) (hL28 : ∀ (y0 : Int32) (y1 : Int32) (h : ph_H), EQ pC h0 h → EQ pC h0 (L28 y0 y1 h).2) (h : ph_H) (e : EQ pC h0 h) : EQ pC h0 (FX3_wakeSleepers_oc2_64 L28 x3 x4 h).2 := (hL28 _ _ _ e)
theorem frC_FX3_wakeSleepers_oc2_28 {h0 : ph_H}  : ∀ (q : Nat) (y0 : Int32) (y1 : Int32) (h : ph_H), EQ pC h0 h → EQ pC h0 (FX3_wakeSleepers_oc2_28  q y0 y1 h).2 := by
  intro q
  induction q with
  | zero =>
    intro y0 y1 h e
    exact e
  | succ q ih =>
    intro y0 y1 h e
    exact (EQ2_if (EQ_s rfl e) (EQ2_if (EQ2_if (frC_FX3_wakeSleepers_oc2_64 _ _ _ ih _ (EQ_s rfl e)) (frC_FX3_wakeSleepers_oc2_64 _ _ _ ih _ e)) (frC_FX3_wakeSleepers_oc2_64 _ _ _ ih _ e)))
theorem frC_FX3_wakeSleepers_oc2 {h0 : ph_H} (a0 : Int32) (a1 : Int32) (h : ph_H) (e : EQ pC h0 h) : EQ pC h0 (FX3_wakeSleepers_oc2 a0 a1 h).2 := (EQ2_if (EQ2_if (frC_FX3_wakeSleepers_oc2_28   _ _ _ _ e) e) e)
theorem frC_FX3_writeRow_oc2 {h0 : ph_H} (a0 : Int32) (a1 : Int32) (a2 : Int32) (h : ph_H) (e : EQ pC h0 h) : EQ pC h0 (FX3_writeRow_oc2 a0 a1 a2 h).2 := (EQ2_if (EQ2_if e (EQ2_if e (EQ_s rfl (EQ_s rfl e)))) e)
theorem frC_FX3_perform_oc2_288 {h0 : ph_H} (s0 : Int32) (s1 : Int32) (h : ph_H) (e : EQ pC h0 h) : EQ pC h0 (FX3_perform_oc2_288 s0 s1 h).2 := (frC_FX3_makeLock_oc2 _ _  _ e)
theorem frC_FX3_perform_oc2 {h0 : ph_H} (a0 : Int32) (h : ph_H) (e : EQ pC h0 h) : EQ pC h0 (FX3_perform_oc2 a0 h).2 := (EQ2_if (frC_FX3_hold_oc2 _ _ _  _ e) (EQ2_if (frC_FX3_getCell_oc2 _ _  _ e) (EQ2_if (frC_FX3_putCell_oc2 _ _  _ e) (EQ2_if (frC_FX3_reckon_oc2 _ _ _  _ e) (EQ2_if (frC_FX3_reckon_oc2 _ _ _  _ e) (EQ2_if (frC_FX3_reckon_oc2 _ _ _  _ e) (EQ2_if (frC_FX3_goTo_oc2 _  _ e) (EQ2_if (frC_FX3_goUnless_oc2 _ _  _ e) (EQ2_if (frC_FX3_makeRow_oc2 _ _  _ e) (EQ2_if (frC_FX3_readRow_oc2 _ _ _  _ e) (EQ2_if (frC_FX3_writeRow_oc2 _ _ _  _ e) (EQ2_if (EQ2_if (frC_FX3_perform_oc2_288 _ _  _ e) (frC_FX3_perform_oc2_288 _ _  _ e)) (EQ2_if (frC_FX3_takeLock_oc2 _ _  _ e) (EQ2_if (frC_FX3_leaveLock_oc2 _ _  _ e) (EQ2_if (frC_FX3_lieDown_oc2 _ _  _ e) (EQ2_if (frC_FX3_wakeSleepers_oc2 _ _  _ e) (EQ2_if (frC_FX3_takeInput_oc2 _  _ e) (EQ2_if (frC_FX3_startThread_oc2 _  _ e) (EQ2_if e (frC_FX3_goTo_oc2 _  _ e))))))))))))))))))))
theorem frC_FX3_rise_oc2 {h0 : ph_H} (a0 : Int32) (h : ph_H) (e : EQ pC h0 h) : EQ pC h0 (FX3_rise_oc2 a0 h).2 := (frC_FX3_own_oc2 _ _  _ (EQ_s rfl e))
theorem frC_FX3_go_oc2_67 {h0 : ph_H} (x1 : Int32) (s0 : Int32) (h : ph_H) (e : EQ pC h0 h) : EQ pC h0 (FX3_go_oc2_67 x1 s0 h).2 := (EQ2_if (EQ_s rfl e) e)
theorem frC_FX3_go_oc2_59 {h0 : ph_H} (x1 : Int32) (s0 : Int32) (h : ph_H) (e : EQ pC h0 h) : EQ pC h0 (FX3_go_oc2_59 x1 s0 h).2 := (frC_FX3_go_oc2_67 _ _  _ e)
theorem frC_FX3_go_oc2 {h0 : ph_H} (a0 : Int32) (h : ph_H) (e : EQ pC h0 h) : EQ pC h0 (FX3_go_oc2 a0 h).2 := (EQ2_if e (EQ2_if (frC_FX3_go_oc2_59 _ _  _ (frC_FX3_rise_oc2 _  _ (EQ_s rfl (EQ_s rfl (EQ_s rfl (EQ_s rfl (EQ_s rfl e))))))) (frC_FX3_go_oc2_67 _ _  _ (frC_FX3_perform_oc2 _  _ (EQ_s rfl (EQ_s rfl (EQ_s rfl (EQ_s rfl (EQ_s rfl e)))))))))
theorem frC_FX11_replay_oc2_33 {h0 : ph_H} (L3 : Int32 → Int32 → ph_H → ph_H) (x3 : Int32) (x4 : Int32) (s0 : Int32) (hL3 : ∀ (y0 : Int32) (y1 : Int32) (h : ph_H), EQ pC h0 h → EQ pC h0 (L3 y0 y1 h)) (h : ph_H) (e : EQ pC h0 h) : EQ pC h0 (FX11_replay_oc2_33 L3 x3 x4 s0 h) := (hL3 _ _ _ e)
theorem frC_FX11_replay_oc2_3 {h0 : ph_H}  : ∀ (q : Nat) (y0 : Int32) (y1 : Int32) (h : ph_H), EQ pC h0 h → EQ pC h0 (FX11_replay_oc2_3  q y0 y1 h) := by
  intro q
  induction q with
  | zero =>
    intro y0 y1 h e
    exact e
  | succ q ih =>
    intro y0 y1 h e
    exact (EQ_if e (EQ_if e (frC_FX11_replay_oc2_33 _ _ _ _ ih _ (frC_FX3_go_oc2 _  _ e))))
theorem frC_FX11_replay_oc2 {h0 : ph_H} (a1 : Int32) (a2 : Int32) (h : ph_H) (e : EQ pC h0 h) : EQ pC h0 (FX11_replay_oc2 a1 a2 h) := (frC_FX11_replay_oc2_3   _ _ _ _ e)
theorem frC_FX3_begin_ot_52 {h0 : ph_H} (x2 : Int32) (h : ph_H) (e : EQ pC h0 h) : EQ pC h0 (FX3_begin_ot_52 x2 h) := (EQ_s rfl (EQ_s rfl (EQ_s rfl (EQ_s rfl e))))
theorem frC_FX3_begin_ot_44 {h0 : ph_H} (x2 : Int32) (h : ph_H) (e : EQ pC h0 h) : EQ pC h0 (FX3_begin_ot_44 x2 h) := (frC_FX3_begin_ot_52 _  _ (frC_FJ7_fill_53178_k29 _  _ e))
theorem frC_FX3_begin_ot_21 {h0 : ph_H} (x2 : Int32) (h : ph_H) (e : EQ pC h0 h) : EQ pC h0 (FX3_begin_ot_21 x2 h) := (frC_FX3_begin_ot_44 _  _ (frC_FJ7_fill_53178_k28 _  _ (EQ_c (fun _ => rfl) e)))
theorem frC_FX3_begin_ot_13 {h0 : ph_H} (x2 : Int32) (h : ph_H) (e : EQ pC h0 h) : EQ pC h0 (FX3_begin_ot_13 x2 h) := (frC_FX3_begin_ot_21 _  _ (frC_FJ7_fill_53178_k27 _  _ e))
theorem frC_FX3_begin_ot {h0 : ph_H} (a1 : Int32) (h : ph_H) (e : EQ pC h0 h) : EQ pC h0 (FX3_begin_ot a1 h) := (frC_FX3_begin_ot_13 _  _ (frC_FJ7_fill_53178_k26 _  _ e))
theorem frC_FX11_differ_61 {h0 : ph_H}  (h : ph_H) (e : EQ pC h0 h) : EQ pC h0 (FX11_differ_61 h).2 := e
theorem frC_FX11_differ_56 {h0 : ph_H} (x2 : Int32) (h : ph_H) (e : EQ pC h0 h) : EQ pC h0 (FX11_differ_56 x2 h).2 := (frC_FX11_differ_61   _ (frC_FX11_seenBehind _  _ e))
theorem frC_FX11_differ_46 {h0 : ph_H} (x1 : Int32) (x2 : Int32) (h : ph_H) (e : EQ pC h0 h) : EQ pC h0 (FX11_differ_46 x1 x2 h).2 := (frC_FX11_differ_56 _  _ (frC_FX11_replay_oc2 _ _  _ e))
theorem frC_FX11_differ {h0 : ph_H} (a0 : Int32) (a1 : Int32) (h : ph_H) (e : EQ pC h0 h) : EQ pC h0 (FX11_differ a0 a1 h).2 := (EQ2_if e (EQ2_if e (EQ2_if e (frC_FX11_differ_46 _ _  _ (frC_FX3_begin_ot _  _ e)))))
theorem frC_FX6_goThrough_97 {h0 : ph_H} (L37 : Int32 → Int32 → ph_H → ph_H) (x1 : Int32) (x2 : Int32) (s0 : Int32) (hL37 : ∀ (y0 : Int32) (y1 : Int32) (h : ph_H), EQ pC h0 h → EQ pC h0 (L37 y0 y1 h)) (h : ph_H) (e : EQ pC h0 h) : EQ pC h0 (FX6_goThrough_97 L37 x1 x2 s0 h) := (hL37 _ _ _ (EQ_s rfl (EQ_s rfl e)))
theorem frC_FX6_goThrough_82 {h0 : ph_H} (L37 : Int32 → Int32 → ph_H → ph_H) (x1 : Int32) (x2 : Int32) (hL37 : ∀ (y0 : Int32) (y1 : Int32) (h : ph_H), EQ pC h0 h → EQ pC h0 (L37 y0 y1 h)) (h : ph_H) (e : EQ pC h0 h) : EQ pC h0 (FX6_goThrough_82 L37 x1 x2 h) := (frC_FX6_goThrough_97 _ _ _ _ hL37 _ (frC_FX3_go_oc1 _  _ e))
theorem frC_FX6_goThrough_122 {h0 : ph_H} (x1 : Int32) (h : ph_H) (e : EQ pC h0 h) : EQ pC h0 (FX6_goThrough_122 x1 h) := (EQ_if e (EQ_s rfl e))
theorem frC_FX6_goThrough_37 {h0 : ph_H}  : ∀ (q : Nat) (y0 : Int32) (y1 : Int32) (h : ph_H), EQ pC h0 h → EQ pC h0 (FX6_goThrough_37  q y0 y1 h) := by
  intro q
  induction q with
  | zero =>
    intro y0 y1 h e
    exact e
  | succ q ih =>
    intro y0 y1 h e
    exact (EQ_if (frC_FX6_goThrough_122 _  _ e) (EQ_if (frC_FX6_goThrough_122 _  _ e) (EQ_if (EQ_if (frC_FX6_goThrough_82 _ _ _ ih _ e) (frC_FX6_goThrough_82 _ _ _ ih _ (EQ_s (pC_57 _ _) e))) (frC_FX6_goThrough_122 _  _ e))))
theorem frC_FX6_goThrough_18 {h0 : ph_H} (x1 : Int32) (h : ph_H) (e : EQ pC h0 h) : EQ pC h0 (FX6_goThrough_18 x1 h) := (frC_FX6_goThrough_37   _ _ _ _ (EQ_s rfl (EQ_s rfl e)))
theorem frC_FX6_goThrough {h0 : ph_H} (a0 : Int32) (h : ph_H) (e : EQ pC h0 h) : EQ pC h0 (FX6_goThrough a0 h) := (frC_FX6_goThrough_18 _  _ (frC_FX3_begin_on _  _ e))
theorem frC_FX3_begin_onc1_52 {h0 : ph_H} (x2 : Int32) (h : ph_H) (e : EQ pC h0 h) : EQ pC h0 (FX3_begin_onc1_52 x2 h) := (EQ_s rfl (EQ_s rfl (EQ_s rfl (EQ_s rfl e))))
theorem frC_FX3_begin_onc1_44 {h0 : ph_H} (x2 : Int32) (h : ph_H) (e : EQ pC h0 h) : EQ pC h0 (FX3_begin_onc1_44 x2 h) := (frC_FX3_begin_onc1_52 _  _ (frC_FJ7_fill_53178_k29 _  _ e))
theorem frC_FX3_begin_onc1_21 {h0 : ph_H} (x2 : Int32) (h : ph_H) (e : EQ pC h0 h) : EQ pC h0 (FX3_begin_onc1_21 x2 h) := (frC_FX3_begin_onc1_44 _  _ (frC_FJ7_fill_53178_k28 _  _ (EQ_c (fun _ => rfl) e)))
theorem frC_FX3_begin_onc1_13 {h0 : ph_H} (x2 : Int32) (h : ph_H) (e : EQ pC h0 h) : EQ pC h0 (FX3_begin_onc1_13 x2 h) := (frC_FX3_begin_onc1_21 _  _ (frC_FJ7_fill_53178_k27 _  _ e))
theorem frC_FX3_begin_onc1 {h0 : ph_H} (a1 : Int32) (h : ph_H) (e : EQ pC h0 h) : EQ pC h0 (FX3_begin_onc1 a1 h) := (frC_FX3_begin_onc1_13 _  _ (frC_FJ7_fill_53178_k26 _  _ e))
theorem frC_FX6_goThroughc1_97 {h0 : ph_H} (L37 : Int32 → Int32 → ph_H → ph_H) (x1 : Int32) (x2 : Int32) (s0 : Int32) (hL37 : ∀ (y0 : Int32) (y1 : Int32) (h : ph_H), EQ pC h0 h → EQ pC h0 (L37 y0 y1 h)) (h : ph_H) (e : EQ pC h0 h) : EQ pC h0 (FX6_goThroughc1_97 L37 x1 x2 s0 h) := (hL37 _ _ _ (EQ_s rfl (EQ_s rfl e)))
theorem frC_FX6_goThroughc1_82 {h0 : ph_H} (L37 : Int32 → Int32 → ph_H → ph_H) (x1 : Int32) (x2 : Int32) (hL37 : ∀ (y0 : Int32) (y1 : Int32) (h : ph_H), EQ pC h0 h → EQ pC h0 (L37 y0 y1 h)) (h : ph_H) (e : EQ pC h0 h) : EQ pC h0 (FX6_goThroughc1_82 L37 x1 x2 h) := (frC_FX6_goThroughc1_97 _ _ _ _ hL37 _ (frC_FX3_go_oc1 _  _ e))
theorem frC_FX6_goThroughc1_122 {h0 : ph_H} (x1 : Int32) (h : ph_H) (e : EQ pC h0 h) : EQ pC h0 (FX6_goThroughc1_122 x1 h) := (EQ_if e (EQ_s rfl e))
theorem frC_FX6_goThroughc1_37 {h0 : ph_H}  : ∀ (q : Nat) (y0 : Int32) (y1 : Int32) (h : ph_H), EQ pC h0 h → EQ pC h0 (FX6_goThroughc1_37  q y0 y1 h) := by
  intro q
  induction q with
  | zero =>
    intro y0 y1 h e
    exact e
  | succ q ih =>
    intro y0 y1 h e
    exact (EQ_if (frC_FX6_goThroughc1_122 _  _ e) (EQ_if (frC_FX6_goThroughc1_122 _  _ e) (EQ_if (EQ_if (frC_FX6_goThroughc1_82 _ _ _ ih _ e) (frC_FX6_goThroughc1_82 _ _ _ ih _ (EQ_s (pC_57 _ _) e))) (frC_FX6_goThroughc1_122 _  _ e))))
theorem frC_FX6_goThroughc1_18 {h0 : ph_H} (x1 : Int32) (h : ph_H) (e : EQ pC h0 h) : EQ pC h0 (FX6_goThroughc1_18 x1 h) := (frC_FX6_goThroughc1_37   _ _ _ _ (EQ_s rfl (EQ_s rfl e)))
theorem frC_FX6_goThroughc1 {h0 : ph_H} (a0 : Int32) (h : ph_H) (e : EQ pC h0 h) : EQ pC h0 (FX6_goThroughc1 a0 h) := (frC_FX6_goThroughc1_18 _  _ (frC_FX3_begin_onc1 _  _ e))
theorem frC_FX6_putAhead {h0 : ph_H} (a0 : Int32) (a1 : Int32) (h : ph_H) (e : EQ pC h0 h) : EQ pC h0 (FX6_putAhead a0 a1 h) := (EQ_s rfl (EQ_s rfl e))
theorem frC_FX6_moveOn_29 {h0 : ph_H} (L16 : Int32 → Int32 → Int32 → ph_H → Int32 × ph_H) (hL16 : ∀ (y0 : Int32) (y1 : Int32) (y2 : Int32) (h : ph_H), EQ pC h0 h → EQ pC h0 (L16 y0 y1 y2 h).2) : ∀ (q : Nat) (y0 : Int32) (y1 : Int32) (y2 : Int32) (h : ph_H), EQ pC h0 h → EQ pC h0 (FX6_moveOn_29 L16 q y0 y1 y2 h).2 := by
  intro q
  induction q with
  | zero =>
    intro y0 y1 y2 h e
    exact e
  | succ q ih =>
    intro y0 y1 y2 h e
    exact (EQ2_if (hL16 _ _ _ _ e) (EQ2_if (ih _ _ _ _ e) (EQ_s rfl (EQ_s rfl e))))
theorem frC_FX6_moveOn_16 {h0 : ph_H}  : ∀ (q : Nat) (y0 : Int32) (y1 : Int32) (y2 : Int32) (h : ph_H), EQ pC h0 h → EQ pC h0 (FX6_moveOn_16  q y0 y1 y2 h).2 := by
  intro q
  induction q with
  | zero =>
    intro y0 y1 y2 h e
    exact e
  | succ q ih =>
    intro y0 y1 y2 h e
    exact (EQ2_if e (frC_FX6_moveOn_29 _ ih _ _ _ _ _ e))
theorem frC_FX6_moveOn {h0 : ph_H} (a0 : Int32) (h : ph_H) (e : EQ pC h0 h) : EQ pC h0 (FX6_moveOn a0 h).2 := (frC_FX6_moveOn_16   _ _ _ _ _ e)
theorem frC_FX6_putChangesc1_71 {h0 : ph_H} (L16 : Int32 → ph_H → Int32 × ph_H) (x1 : Int32) (hL16 : ∀ (y0 : Int32) (h : ph_H), EQ pC h0 h → EQ pC h0 (L16 y0 h).2) (h : ph_H) (e : EQ pC h0 h) : EQ pC h0 (FX6_putChangesc1_71 L16 x1 h).2 := (hL16 _ _ e)
theorem frC_FX6_putChangesc1_53 {h0 : ph_H} (L16 : Int32 → ph_H → Int32 × ph_H) (x1 : Int32) (hL16 : ∀ (y0 : Int32) (h : ph_H), EQ pC h0 h → EQ pC h0 (L16 y0 h).2) (h : ph_H) (e : EQ pC h0 h) : EQ pC h0 (FX6_putChangesc1_53 L16 x1 h).2 := (frC_FX6_putChangesc1_71 _ _ hL16 _ (frC_FX6_putAhead _ _  _ (EQ_s rfl e)))
theorem frC_FX6_putChangesc1_38 {h0 : ph_H} (L16 : Int32 → ph_H → Int32 × ph_H) (x1 : Int32) (s0 : Int32) (hL16 : ∀ (y0 : Int32) (h : ph_H), EQ pC h0 h → EQ pC h0 (L16 y0 h).2) (h : ph_H) (e : EQ pC h0 h) : EQ pC h0 (FX6_putChangesc1_38 L16 x1 s0 h).2 := (EQ2_if e (frC_FX6_putChangesc1_53 _ _ hL16 _ (frC_FX6_goThroughc1 _  _ (EQ_s rfl e))))
theorem frC_FX6_putChangesc1_28 {h0 : ph_H} (L16 : Int32 → ph_H → Int32 × ph_H) (x1 : Int32) (s0 : Int32) (hL16 : ∀ (y0 : Int32) (h : ph_H), EQ pC h0 h → EQ pC h0 (L16 y0 h).2) (h : ph_H) (e : EQ pC h0 h) : EQ pC h0 (FX6_putChangesc1_28 L16 x1 s0 h).2 := (EQ2_if (frC_FX6_putChangesc1_38 _ _ _ hL16 _ (frC_FX6_moveOn _  _ e)) e)
theorem frC_FX6_putChangesc1_16 {h0 : ph_H}  : ∀ (q : Nat) (y0 : Int32) (h : ph_H), EQ pC h0 h → EQ pC h0 (FX6_putChangesc1_16  q y0 h).2 := by
  intro q
  induction q with
  | zero =>
    intro y0 h e
    exact e
  | succ q ih =>
    intro y0 h e
    exact (EQ2_if e (frC_FX6_putChangesc1_28 _ _ _ ih _ (frC_FX6_moveOn _  _ e)))
theorem frC_FX6_putChangesc1 {h0 : ph_H}  (h : ph_H) (e : EQ pC h0 h) : EQ pC h0 (FX6_putChangesc1 h).2 := (EQ2_if (frC_FX6_moveOn _  _ e) (frC_FX6_putChangesc1_16   _ _ _ e))
theorem frC_FX6_look_84 {h0 : ph_H} (L17 : Int32 → Int32 → Int32 → ph_H → Int32 × ph_H) (L47 : Int32 → Int32 → Int32 → ph_H → Int32 × ph_H) (x1 : Int32) (x2 : Int32) (x3 : Int32) (hL17 : ∀ (y0 : Int32) (y1 : Int32) (y2 : Int32) (h : ph_H), EQ pC h0 h → EQ pC h0 (L17 y0 y1 y2 h).2) (hL47 : ∀ (y0 : Int32) (y1 : Int32) (y2 : Int32) (h : ph_H), EQ pC h0 h → EQ pC h0 (L47 y0 y1 y2 h).2) (h : ph_H) (e : EQ pC h0 h) : EQ pC h0 (FX6_look_84 L17 L47 x1 x2 x3 h).2 := (hL47 _ _ _ _ e)
theorem frC_FX6_look_87 {h0 : ph_H} (L17 : Int32 → Int32 → Int32 → ph_H → Int32 × ph_H) (x1 : Int32) (x2 : Int32) (x3 : Int32) (hL17 : ∀ (y0 : Int32) (y1 : Int32) (y2 : Int32) (h : ph_H), EQ pC h0 h → EQ pC h0 (L17 y0 y1 y2 h).2) (h : ph_H) (e : EQ pC h0 h) : EQ pC h0 (FX6_look_87 L17 x1 x2 x3 h).2 := (hL17 _ _ _ _ e)
theorem frC_FX6_look_66 {h0 : ph_H} (L17 : Int32 → Int32 → Int32 → ph_H → Int32 × ph_H) (L47 : Int32 → Int32 → Int32 → ph_H → Int32 × ph_H) (x1 : Int32) (x2 : Int32) (x3 : Int32) (s0 : Int32) (hL17 : ∀ (y0 : Int32) (y1 : Int32) (y2 : Int32) (h : ph_H), EQ pC h0 h → EQ pC h0 (L17 y0 y1 y2 h).2) (hL47 : ∀ (y0 : Int32) (y1 : Int32) (y2 : Int32) (h : ph_H), EQ pC h0 h → EQ pC h0 (L47 y0 y1 y2 h).2) (h : ph_H) (e : EQ pC h0 h) : EQ pC h0 (FX6_look_66 L17 L47 x1 x2 x3 s0 h).2 := (EQ2_if (frC_FX6_look_87 _ _ _ _ hL17 _ e) (frC_FX6_look_84 _ _ _ _ _ hL17 hL47 _ (frC_FX6_goThroughc1 _  _ (EQ_s rfl e))))
theorem frC_FX6_look_47 {h0 : ph_H} (L17 : Int32 → Int32 → Int32 → ph_H → Int32 × ph_H) (hL17 : ∀ (y0 : Int32) (y1 : Int32) (y2 : Int32) (h : ph_H), EQ pC h0 h → EQ pC h0 (L17 y0 y1 y2 h).2) : ∀ (q : Nat) (y0 : Int32) (y1 : Int32) (y2 : Int32) (h : ph_H), EQ pC h0 h → EQ pC h0 (FX6_look_47 L17 q y0 y1 y2 h).2 := by
  intro q
  induction q with
  | zero =>
    intro y0 y1 y2 h e
    exact e
  | succ q ih =>
    intro y0 y1 y2 h e
    exact (EQ2_if (frC_FX6_look_87 _ _ _ _ hL17 _ e) (EQ2_if (frC_FX6_look_66 _ _ _ _ _ _ hL17 ih _ (frC_FX6_putChangesc1   _ e)) (frC_FX6_look_87 _ _ _ _ hL17 _ e)))
theorem frC_FX6_look_40 {h0 : ph_H} (L17 : Int32 → Int32 → Int32 → ph_H → Int32 × ph_H) (x1 : Int32) (x2 : Int32) (x3 : Int32) (hL17 : ∀ (y0 : Int32) (y1 : Int32) (y2 : Int32) (h : ph_H), EQ pC h0 h → EQ pC h0 (L17 y0 y1 y2 h).2) (h : ph_H) (e : EQ pC h0 h) : EQ pC h0 (FX6_look_40 L17 x1 x2 x3 h).2 := (frC_FX6_look_47 _ hL17 _ _ _ _ _ (EQ_s rfl e))
theorem frC_FX6_look_106 {h0 : ph_H} (s0 : Int32) (h : ph_H) (e : EQ pC h0 h) : EQ pC h0 (FX6_look_106 s0 h).2 := (EQ2_if (EQ_s rfl e) (EQ_s rfl e))
theorem frC_FX6_look_93 {h0 : ph_H}  (h : ph_H) (e : EQ pC h0 h) : EQ pC h0 (FX6_look_93 h).2 := (EQ2_if (frC_FX6_look_106 _  _ e) (frC_FX6_look_106 _  _ e))
theorem frC_FX6_look_17 {h0 : ph_H}  : ∀ (q : Nat) (y0 : Int32) (y1 : Int32) (y2 : Int32) (h : ph_H), EQ pC h0 h → EQ pC h0 (FX6_look_17  q y0 y1 y2 h).2 := by
  intro q
  induction q with
  | zero =>
    intro y0 y1 y2 h e
    exact e
  | succ q ih =>
    intro y0 y1 y2 h e
    exact (EQ2_if (frC_FX6_look_93   _ e) (EQ2_if (frC_FX6_look_40 _ _ _ _ ih _ (frC_FX6_putAhead _ _  _ (EQ_s rfl e))) (frC_FX6_look_93   _ e)))
theorem frC_FX6_look_15 {h0 : ph_H} (x1 : Int32) (x2 : Int32) (h : ph_H) (e : EQ pC h0 h) : EQ pC h0 (FX6_look_15 x1 x2 h).2 := (frC_FX6_look_17   _ _ _ _ _ e)
theorem frC_FX6_look {h0 : ph_H} (a0 : Int32) (a1 : Int32) (h : ph_H) (e : EQ pC h0 h) : EQ pC h0 (FX6_look a0 a1 h).2 := (frC_FX6_look_15 _ _  _ (frC_FX6_goThrough _  _ (EQ_s rfl (EQ_s rfl e))))
theorem frC_FX11_find {h0 : ph_H} (a0 : Int32) (a1 : Int32) (h : ph_H) (e : EQ pC h0 h) : EQ pC h0 (FX11_find a0 a1 h).2 := (EQ2_if e (EQ2_if e (EQ2_if e (EQ2_if (frC_FX6_look _ _  _ e) e))))
def pN (k i : Nat) : Bool := match k with
  | 1 => i == 6 || i == 7
  | 2 => true
  | 3 => true
  | 4 => true
  | 5 => true
  | 6 => true
  | 7 => true
  | _ => false
theorem pN_57 (n i : Nat) : pN (57 + n) i = false := by
  unfold pN
  split <;> first | omega | rfl
theorem frN_FX10_noteChange {h0 : ph_H} (a0 : Int32) (h : ph_H) (e : EQ pN h0 h) : EQ pN h0 (FX10_noteChange a0 h) := (EQ_if e (EQ_s rfl (EQ_s rfl (EQ_s rfl e))))
theorem frN_FX10_noteEffects_s_68 {h0 : ph_H}  (h : ph_H) (e : EQ pN h0 h) : EQ pN h0 (FX10_noteEffects_s_68 h) := (EQ_s rfl (EQ_s rfl e))
theorem frN_FX10_noteEffects_s {h0 : ph_H}  (h : ph_H) (e : EQ pN h0 h) : EQ pN h0 (FX10_noteEffects_s h) := (EQ_if (frN_FX10_noteEffects_s_68   _ (EQ_s rfl (EQ_s rfl e))) (EQ_if (frN_FX10_noteEffects_s_68   _ (EQ_s rfl (EQ_s rfl e))) (frN_FX10_noteEffects_s_68   _ (EQ_s rfl (EQ_s rfl (EQ_s rfl (EQ_s rfl e)))))))
theorem frN_FX3_hold_s {h0 : ph_H} (a0 : Int32) (a1 : Int32) (a2 : Int32) (h : ph_H) (e : EQ pN h0 h) : EQ pN h0 (FX3_hold_s a0 a1 a2 h).2 := (EQ_s rfl (EQ_s rfl e))
theorem frN_FX3_getCell_s {h0 : ph_H} (a0 : Int32) (a1 : Int32) (h : ph_H) (e : EQ pN h0 h) : EQ pN h0 (FX3_getCell_s a0 a1 h).2 := (frN_FX3_hold_s _ _ _  _ (EQ_s rfl e))
theorem frN_FX3_goTo_s {h0 : ph_H} (a0 : Int32) (h : ph_H) (e : EQ pN h0 h) : EQ pN h0 (FX3_goTo_s a0 h).2 := (EQ_s rfl e)
theorem frN_FX3_goUnless_s_25 {h0 : ph_H} (s0 : Int32) (h : ph_H) (e : EQ pN h0 h) : EQ pN h0 (FX3_goUnless_s_25 s0 h).2 := e
theorem frN_FX3_goUnless_s {h0 : ph_H} (a0 : Int32) (a1 : Int32) (h : ph_H) (e : EQ pN h0 h) : EQ pN h0 (FX3_goUnless_s a0 a1 h).2 := (EQ2_if (EQ2_if (frN_FX3_goUnless_s_25 _  _ (frN_FX3_goTo_s _  _ e)) e) e)
theorem frN_FX3_free_s {h0 : ph_H} (a0 : Int32) (h : ph_H) (e : EQ pN h0 h) : EQ pN h0 (FX3_free_s a0 h).2 := (EQ_s rfl (EQ_s rfl (EQ_s rfl e)))
theorem frN_FX3_leaveLock_s {h0 : ph_H} (a0 : Int32) (a1 : Int32) (h : ph_H) (e : EQ pN h0 h) : EQ pN h0 (FX3_leaveLock_s a0 a1 h).2 := (EQ2_if (EQ2_if (frN_FX3_free_s _  _ e) e) e)
theorem frN_FX3_lieDown_s {h0 : ph_H} (a0 : Int32) (a1 : Int32) (h : ph_H) (e : EQ pN h0 h) : EQ pN h0 (FX3_lieDown_s a0 a1 h).2 := (EQ2_if (EQ2_if (frN_FX3_free_s _  _ (EQ_s rfl (EQ_s rfl (EQ_s rfl e)))) e) e)
theorem frN_FX3_makeThing_s {h0 : ph_H} (a0 : Int32) (a1 : Int32) (a2 : Int32) (h : ph_H) (e : EQ pN h0 h) : EQ pN h0 (FX3_makeThing_s a0 a1 a2 h).2 := (EQ_s rfl (EQ_s rfl (EQ_s rfl (EQ_s rfl (EQ_s rfl (EQ_s rfl e))))))
theorem frN_FX3_makeLock_s_22 {h0 : ph_H} (s0 : Int32) (s1 : Int32) (h : ph_H) (e : EQ pN h0 h) : EQ pN h0 (FX3_makeLock_s_22 s0 s1 h).2 := (frN_FX3_makeThing_s _ _ _  _ e)
theorem frN_FX3_makeLock_s {h0 : ph_H} (a0 : Int32) (a1 : Int32) (h : ph_H) (e : EQ pN h0 h) : EQ pN h0 (FX3_makeLock_s a0 a1 h).2 := (EQ2_if (EQ2_if (frN_FX3_makeLock_s_22 _ _  _ e) (frN_FX3_makeLock_s_22 _ _  _ e)) e)
theorem frN_FX3_makeRow_s_44 {h0 : ph_H}  : ∀ (q : Nat) (y0 : Int32) (y1 : Int32) (y2 : Int32) (h : ph_H), EQ pN h0 h → EQ pN h0 (FX3_makeRow_s_44  q y0 y1 y2 h).2 := by
  intro q
  induction q with
  | zero =>
    intro y0 y1 y2 h e
    exact e
  | succ q ih =>
    intro y0 y1 y2 h e
    exact (EQ2_if (frN_FX3_makeThing_s _ _ _  _ e) (ih _ _ _ _ (EQ_s rfl e)))
theorem frN_FX3_makeRow_s {h0 : ph_H} (a0 : Int32) (a1 : Int32) (h : ph_H) (e : EQ pN h0 h) : EQ pN h0 (FX3_makeRow_s a0 a1 h).2 := (EQ2_if (EQ2_if (EQ2_if e (EQ2_if (frN_FX3_makeRow_s_44   _ _ _ _ _ e) e)) e) e)
theorem frN_FX3_putCell_s {h0 : ph_H} (a0 : Int32) (a1 : Int32) (h : ph_H) (e : EQ pN h0 h) : EQ pN h0 (FX3_putCell_s a0 a1 h).2 := (frN_FX3_hold_s _ _ _  _ (EQ_s rfl e))
theorem frN_FX3_readRow_s {h0 : ph_H} (a0 : Int32) (a1 : Int32) (a2 : Int32) (h : ph_H) (e : EQ pN h0 h) : EQ pN h0 (FX3_readRow_s a0 a1 a2 h).2 := (EQ2_if (EQ2_if (EQ2_if e (frN_FX3_hold_s _ _ _  _ (EQ_s rfl e))) e) e)
theorem frN_FX3_reckon_s_58 {h0 : ph_H} (x2 : Int32) (s0 : Int32) (h : ph_H) (e : EQ pN h0 h) : EQ pN h0 (FX3_reckon_s_58 x2 s0 h).2 := (frN_FX3_hold_s _ _ _  _ e)
theorem frN_FX3_reckon_s {h0 : ph_H} (a0 : Int32) (a1 : Int32) (a2 : Int32) (h : ph_H) (e : EQ pN h0 h) : EQ pN h0 (FX3_reckon_s a0 a1 a2 h).2 := (EQ2_if e (EQ2_if (frN_FX3_reckon_s_58 _ _  _ e) (EQ2_if (frN_FX3_reckon_s_58 _ _  _ e) (frN_FX3_reckon_s_58 _ _  _ e))))
theorem frN_FX3_startThread_s {h0 : ph_H} (a0 : Int32) (h : ph_H) (e : EQ pN h0 h) : EQ pN h0 (FX3_startThread_s a0 h).2 := (EQ2_if (EQ_s rfl (EQ_s rfl (EQ_s rfl e))) e)
theorem frN_FX3_takeInput_s {h0 : ph_H} (a0 : Int32) (h : ph_H) (e : EQ pN h0 h) : EQ pN h0 (FX3_takeInput_s a0 h).2 := (EQ2_if e (EQ2_if (frN_FX3_hold_s _ _ _  _ (EQ_s rfl e)) e))
theorem frN_FX3_own_s {h0 : ph_H} (a0 : Int32) (a1 : Int32) (h : ph_H) (e : EQ pN h0 h) : EQ pN h0 (FX3_own_s a0 a1 h).2 := (EQ_s rfl (EQ_s rfl (EQ_s rfl e)))
theorem frN_FX3_takeLock_s {h0 : ph_H} (a0 : Int32) (a1 : Int32) (h : ph_H) (e : EQ pN h0 h) : EQ pN h0 (FX3_takeLock_s a0 a1 h).2 := (EQ2_if (EQ2_if e (frN_FX3_own_s _ _  _ e)) e)
theorem frN_FX3_wakeSleepers_s_64 {h0 : ph_H} (L28 : Int32 → Int32 → ph_H → Int32 × ph_H) (x3 : Int32) (x4 : Int32) (hL28 : ∀ (y0 : Int32) (y1 : Int32) (h : ph_H), EQ pN h0 h → EQ pN h0 (L28 y0 y1 h).2) (h : ph_H) (e : EQ pN h0 h) : EQ pN h0 (FX3_wakeSleepers_s_64 L28 x3 x4 h).2 := (hL28 _ _ _ e)
theorem frN_FX3_wakeSleepers_s_28 {h0 : ph_H}  : ∀ (q : Nat) (y0 : Int32) (y1 : Int32) (h : ph_H), EQ pN h0 h → EQ pN h0 (FX3_wakeSleepers_s_28  q y0 y1 h).2 := by
  intro q
  induction q with
  | zero =>
    intro y0 y1 h e
    exact e
  | succ q ih =>
    intro y0 y1 h e
    exact (EQ2_if (EQ_s rfl e) (EQ2_if (EQ2_if (frN_FX3_wakeSleepers_s_64 _ _ _ ih _ (EQ_s rfl e)) (frN_FX3_wakeSleepers_s_64 _ _ _ ih _ e)) (frN_FX3_wakeSleepers_s_64 _ _ _ ih _ e)))
theorem frN_FX3_wakeSleepers_s {h0 : ph_H} (a0 : Int32) (a1 : Int32) (h : ph_H) (e : EQ pN h0 h) : EQ pN h0 (FX3_wakeSleepers_s a0 a1 h).2 := (EQ2_if (EQ2_if (frN_FX3_wakeSleepers_s_28   _ _ _ _ e) e) e)
theorem frN_FX3_writeRow_s {h0 : ph_H} (a0 : Int32) (a1 : Int32) (a2 : Int32) (h : ph_H) (e : EQ pN h0 h) : EQ pN h0 (FX3_writeRow_s a0 a1 a2 h).2 := (EQ2_if (EQ2_if e (EQ2_if e (EQ_s rfl (EQ_s rfl e)))) e)
theorem frN_FX3_perform_s_288 {h0 : ph_H} (s0 : Int32) (s1 : Int32) (h : ph_H) (e : EQ pN h0 h) : EQ pN h0 (FX3_perform_s_288 s0 s1 h).2 := (frN_FX3_makeLock_s _ _  _ e)
theorem frN_FX3_perform_s {h0 : ph_H} (a0 : Int32) (h : ph_H) (e : EQ pN h0 h) : EQ pN h0 (FX3_perform_s a0 h).2 := (EQ2_if (frN_FX3_hold_s _ _ _  _ e) (EQ2_if (frN_FX3_getCell_s _ _  _ e) (EQ2_if (frN_FX3_putCell_s _ _  _ e) (EQ2_if (frN_FX3_reckon_s _ _ _  _ e) (EQ2_if (frN_FX3_reckon_s _ _ _  _ e) (EQ2_if (frN_FX3_reckon_s _ _ _  _ e) (EQ2_if (frN_FX3_goTo_s _  _ e) (EQ2_if (frN_FX3_goUnless_s _ _  _ e) (EQ2_if (frN_FX3_makeRow_s _ _  _ e) (EQ2_if (frN_FX3_readRow_s _ _ _  _ e) (EQ2_if (frN_FX3_writeRow_s _ _ _  _ e) (EQ2_if (EQ2_if (frN_FX3_perform_s_288 _ _  _ e) (frN_FX3_perform_s_288 _ _  _ e)) (EQ2_if (frN_FX3_takeLock_s _ _  _ e) (EQ2_if (frN_FX3_leaveLock_s _ _  _ e) (EQ2_if (frN_FX3_lieDown_s _ _  _ e) (EQ2_if (frN_FX3_wakeSleepers_s _ _  _ e) (EQ2_if (frN_FX3_takeInput_s _  _ e) (EQ2_if (frN_FX3_startThread_s _  _ e) (EQ2_if e (frN_FX3_goTo_s _  _ e))))))))))))))))))))
theorem frN_FX3_rise_s {h0 : ph_H} (a0 : Int32) (h : ph_H) (e : EQ pN h0 h) : EQ pN h0 (FX3_rise_s a0 h).2 := (frN_FX3_own_s _ _  _ (EQ_s rfl e))
theorem frN_FX3_go_s_67 {h0 : ph_H} (x1 : Int32) (s0 : Int32) (h : ph_H) (e : EQ pN h0 h) : EQ pN h0 (FX3_go_s_67 x1 s0 h).2 := (EQ2_if (EQ_s rfl e) e)
theorem frN_FX3_go_s_59 {h0 : ph_H} (x1 : Int32) (s0 : Int32) (h : ph_H) (e : EQ pN h0 h) : EQ pN h0 (FX3_go_s_59 x1 s0 h).2 := (frN_FX3_go_s_67 _ _  _ e)
theorem frN_FX3_go_s {h0 : ph_H} (a0 : Int32) (h : ph_H) (e : EQ pN h0 h) : EQ pN h0 (FX3_go_s a0 h).2 := (EQ2_if e (EQ2_if (frN_FX3_go_s_59 _ _  _ (frN_FX3_rise_s _  _ (EQ_s rfl (EQ_s rfl (EQ_s rfl (EQ_s rfl (EQ_s rfl e))))))) (frN_FX3_go_s_67 _ _  _ (frN_FX3_perform_s _  _ (EQ_s rfl (EQ_s rfl (EQ_s rfl (EQ_s rfl (EQ_s rfl e)))))))))
theorem frN_FX10_advance_s_51 {h0 : ph_H} (x2 : Int32) (x3 : Int32) (h : ph_H) (e : EQ pN h0 h) : EQ pN h0 (FX10_advance_s_51 x2 x3 h).2 := (frN_FX10_noteEffects_s   _ (EQ_s rfl (EQ_s rfl (EQ_s rfl (EQ_s rfl e)))))
theorem frN_FX10_advance_s_30 {h0 : ph_H} (x2 : Int32) (x3 : Int32) (s0 : Int32) (h : ph_H) (e : EQ pN h0 h) : EQ pN h0 (FX10_advance_s_30 x2 x3 s0 h).2 := (EQ2_if e (frN_FX10_advance_s_51 _ _  _ (frN_FX10_noteChange _  _ (EQ_s rfl e))))
theorem frN_FX10_advance_s {h0 : ph_H} (a1 : Int32) (h : ph_H) (e : EQ pN h0 h) : EQ pN h0 (FX10_advance_s a1 h).2 := (EQ2_if (EQ2_if (frN_FX10_advance_s_30 _ _ _  _ (frN_FX3_go_s _  _ e)) e) e)
theorem frN_FX10_goOn_s_45 {h0 : ph_H} (L4 : Int32 → Int32 → ph_H → ph_H) (x3 : Int32) (s0 : Int32) (hL4 : ∀ (y0 : Int32) (y1 : Int32) (h : ph_H), EQ pN h0 h → EQ pN h0 (L4 y0 y1 h)) (h : ph_H) (e : EQ pN h0 h) : EQ pN h0 (FX10_goOn_s_45 L4 x3 s0 h) := (hL4 _ _ _ e)
theorem frN_FX10_goOn_s_44 {h0 : ph_H} (L4 : Int32 → Int32 → ph_H → ph_H) (x3 : Int32) (hL4 : ∀ (y0 : Int32) (y1 : Int32) (h : ph_H), EQ pN h0 h → EQ pN h0 (L4 y0 y1 h)) (h : ph_H) (e : EQ pN h0 h) : EQ pN h0 (FX10_goOn_s_44 L4 x3 h) := (frN_FX10_goOn_s_45 _ _ _ hL4 _ e)
theorem frN_FX10_goOn_s_37 {h0 : ph_H} (L4 : Int32 → Int32 → ph_H → ph_H) (x3 : Int32) (s0 : Int32) (hL4 : ∀ (y0 : Int32) (y1 : Int32) (h : ph_H), EQ pN h0 h → EQ pN h0 (L4 y0 y1 h)) (h : ph_H) (e : EQ pN h0 h) : EQ pN h0 (FX10_goOn_s_37 L4 x3 s0 h) := (EQ_if (frN_FX10_goOn_s_44 _ _ hL4 _ e) (frN_FX10_goOn_s_45 _ _ _ hL4 _ e))
theorem frN_FX10_goOn_s_4 {h0 : ph_H}  : ∀ (q : Nat) (y0 : Int32) (y1 : Int32) (h : ph_H), EQ pN h0 h → EQ pN h0 (FX10_goOn_s_4  q y0 y1 h) := by
  intro q
  induction q with
  | zero =>
    intro y0 y1 h e
    exact e
  | succ q ih =>
    intro y0 y1 h e
    exact (EQ_if e (EQ_if e (EQ_if (frN_FX10_goOn_s_44 _ _ ih _ e) (frN_FX10_goOn_s_37 _ _ _ ih _ (frN_FX10_advance_s _  _ e)))))
theorem frN_FX10_goOn_s {h0 : ph_H}  (h : ph_H) (e : EQ pN h0 h) : EQ pN h0 (FX10_goOn_s h) := (frN_FX10_goOn_s_4   _ _ _ _ e)
theorem frN_FX10_takeTurns_st_53 {h0 : ph_H} (L2 : Int32 → ph_H → ph_H) (L30 : Int32 → Int32 → Int32 → Int32 → ph_H → ph_H) (x3 : Int32) (x4 : Int32) (x6 : Int32) (s0 : Int32) (hL2 : ∀ (y0 : Int32) (h : ph_H), EQ pN h0 h → EQ pN h0 (L2 y0 h)) (hL30 : ∀ (y0 : Int32) (y1 : Int32) (y2 : Int32) (y3 : Int32) (h : ph_H), EQ pN h0 h → EQ pN h0 (L30 y0 y1 y2 y3 h)) (h : ph_H) (e : EQ pN h0 h) : EQ pN h0 (FX10_takeTurns_st_53 L2 L30 x3 x4 x6 s0 h) := (hL30 _ _ _ _ _ e)
theorem frN_FX10_takeTurns_st_61 {h0 : ph_H} (L2 : Int32 → ph_H → ph_H) (x3 : Int32) (hL2 : ∀ (y0 : Int32) (h : ph_H), EQ pN h0 h → EQ pN h0 (L2 y0 h)) (h : ph_H) (e : EQ pN h0 h) : EQ pN h0 (FX10_takeTurns_st_61 L2 x3 h) := (hL2 _ _ e)
theorem frN_FX10_takeTurns_st_30 {h0 : ph_H} (L2 : Int32 → ph_H → ph_H) (hL2 : ∀ (y0 : Int32) (h : ph_H), EQ pN h0 h → EQ pN h0 (L2 y0 h)) : ∀ (q : Nat) (y0 : Int32) (y1 : Int32) (y2 : Int32) (y3 : Int32) (h : ph_H), EQ pN h0 h → EQ pN h0 (FX10_takeTurns_st_30 L2 q y0 y1 y2 y3 h) := by
  intro q
  induction q with
  | zero =>
    intro y0 y1 y2 y3 h e
    exact e
  | succ q ih =>
    intro y0 y1 y2 y3 h e
    exact (EQ_if (frN_FX10_takeTurns_st_61 _ _ hL2 _ e) (EQ_if (frN_FX10_takeTurns_st_61 _ _ hL2 _ e) (frN_FX10_takeTurns_st_53 _ _ _ _ _ _ hL2 ih _ (frN_FX10_advance_s _  _ e))))
theorem frN_FX10_takeTurns_st_2 {h0 : ph_H}  : ∀ (q : Nat) (y0 : Int32) (h : ph_H), EQ pN h0 h → EQ pN h0 (FX10_takeTurns_st_2  q y0 h) := by
  intro q
  induction q with
  | zero =>
    intro y0 h e
    exact e
  | succ q ih =>
    intro y0 h e
    exact (EQ_if e (EQ_if e (frN_FX10_takeTurns_st_30 _ ih _ _ _ _ _ _ e)))
theorem frN_FX10_takeTurns_st {h0 : ph_H}  (h : ph_H) (e : EQ pN h0 h) : EQ pN h0 (FX10_takeTurns_st h) := (frN_FX10_takeTurns_st_2   _ _ _ e)
theorem frN_FX10_record_s_29 {h0 : ph_H}  (h : ph_H) (e : EQ pN h0 h) : EQ pN h0 (FX10_record_s_29 h) := (EQ_s rfl (EQ_s rfl (EQ_s rfl e)))
theorem frN_FX10_record_s_24 {h0 : ph_H}  (h : ph_H) (e : EQ pN h0 h) : EQ pN h0 (FX10_record_s_24 h) := (frN_FX10_record_s_29   _ (frN_FX10_goOn_s   _ e))
theorem frN_FX10_record_s {h0 : ph_H}  (h : ph_H) (e : EQ pN h0 h) : EQ pN h0 (FX10_record_s h) := (frN_FX10_record_s_24   _ (frN_FX10_takeTurns_st   _ (EQ_s rfl (EQ_s rfl (EQ_s rfl e)))))
theorem frN_FJ7_fill_53178_k16_5 {h0 : ph_H}  : ∀ (q : Nat) (y0 : Int32) (y1 : Int32) (y2 : Int32) (h : ph_H), EQ pN h0 h → EQ pN h0 (FJ7_fill_53178_k16_5  q y0 y1 y2 h) := by
  intro q
  induction q with
  | zero =>
    intro y0 y1 y2 h e
    exact e
  | succ q ih =>
    intro y0 y1 y2 h e
    exact (EQ_if e (ih _ _ _ _ (EQ_s rfl e)))
theorem frN_FJ7_fill_53178_k16 {h0 : ph_H} (a1 : Int32) (h : ph_H) (e : EQ pN h0 h) : EQ pN h0 (FJ7_fill_53178_k16 a1 h) := (frN_FJ7_fill_53178_k16_5   _ _ _ _ _ e)
theorem frN_FJ7_fill_53178_k17_5 {h0 : ph_H}  : ∀ (q : Nat) (y0 : Int32) (y1 : Int32) (y2 : Int32) (h : ph_H), EQ pN h0 h → EQ pN h0 (FJ7_fill_53178_k17_5  q y0 y1 y2 h) := by
  intro q
  induction q with
  | zero =>
    intro y0 y1 y2 h e
    exact e
  | succ q ih =>
    intro y0 y1 y2 h e
    exact (EQ_if e (ih _ _ _ _ (EQ_s rfl e)))
theorem frN_FJ7_fill_53178_k17 {h0 : ph_H} (a1 : Int32) (h : ph_H) (e : EQ pN h0 h) : EQ pN h0 (FJ7_fill_53178_k17 a1 h) := (frN_FJ7_fill_53178_k17_5   _ _ _ _ _ e)
theorem frN_FJ7_fill_53178_k18_5 {h0 : ph_H}  : ∀ (q : Nat) (y0 : Int32) (y1 : Int32) (y2 : Int32) (h : ph_H), EQ pN h0 h → EQ pN h0 (FJ7_fill_53178_k18_5  q y0 y1 y2 h) := by
  intro q
  induction q with
  | zero =>
    intro y0 y1 y2 h e
    exact e
  | succ q ih =>
    intro y0 y1 y2 h e
    exact (EQ_if e (ih _ _ _ _ (EQ_s rfl e)))
theorem frN_FJ7_fill_53178_k18 {h0 : ph_H} (a1 : Int32) (h : ph_H) (e : EQ pN h0 h) : EQ pN h0 (FJ7_fill_53178_k18 a1 h) := (frN_FJ7_fill_53178_k18_5   _ _ _ _ _ e)
theorem frN_FJ7_fill_53178_k19_5 {h0 : ph_H}  : ∀ (q : Nat) (y0 : Int32) (y1 : Int32) (y2 : Int32) (h : ph_H), EQ pN h0 h → EQ pN h0 (FJ7_fill_53178_k19_5  q y0 y1 y2 h) := by
  intro q
  induction q with
  | zero =>
    intro y0 y1 y2 h e
    exact e
  | succ q ih =>
    intro y0 y1 y2 h e
    exact (EQ_if e (ih _ _ _ _ (EQ_s rfl e)))
theorem frN_FJ7_fill_53178_k19 {h0 : ph_H} (a1 : Int32) (h : ph_H) (e : EQ pN h0 h) : EQ pN h0 (FJ7_fill_53178_k19 a1 h) := (frN_FJ7_fill_53178_k19_5   _ _ _ _ _ e)
theorem frN_FX3_begin_st_52 {h0 : ph_H} (x2 : Int32) (h : ph_H) (e : EQ pN h0 h) : EQ pN h0 (FX3_begin_st_52 x2 h) := (EQ_s rfl (EQ_s rfl (EQ_s rfl (EQ_s rfl e))))
theorem frN_FX3_begin_st_44 {h0 : ph_H} (x2 : Int32) (h : ph_H) (e : EQ pN h0 h) : EQ pN h0 (FX3_begin_st_44 x2 h) := (frN_FX3_begin_st_52 _  _ (frN_FJ7_fill_53178_k19 _  _ e))
theorem frN_FX3_begin_st_21 {h0 : ph_H} (x2 : Int32) (h : ph_H) (e : EQ pN h0 h) : EQ pN h0 (FX3_begin_st_21 x2 h) := (frN_FX3_begin_st_44 _  _ (frN_FJ7_fill_53178_k18 _  _ (EQ_c (fun _ => rfl) e)))
theorem frN_FX3_begin_st_13 {h0 : ph_H} (x2 : Int32) (h : ph_H) (e : EQ pN h0 h) : EQ pN h0 (FX3_begin_st_13 x2 h) := (frN_FX3_begin_st_21 _  _ (frN_FJ7_fill_53178_k17 _  _ e))
theorem frN_FX3_begin_st {h0 : ph_H} (a1 : Int32) (h : ph_H) (e : EQ pN h0 h) : EQ pN h0 (FX3_begin_st a1 h) := (frN_FX3_begin_st_13 _  _ (frN_FJ7_fill_53178_k16 _  _ e))
theorem frN_FX4_forget {h0 : ph_H}  (h : ph_H) (e : EQ pN h0 h) : EQ pN h0 (FX4_forget h) := (EQ_s rfl e)
theorem frN_FX5_become_tn {h0 : ph_H}  (h : ph_H) (e : EQ pN h0 h) : EQ pN h0 (FX5_become_tn h) := (EQ_s rfl (EQ_s rfl (EQ_c (fun _ => rfl) (EQ_c (fun _ => rfl) (EQ_c (fun _ => rfl) (EQ_c (fun _ => rfl) (EQ_c (fun _ => rfl) (EQ_c (fun _ => rfl) e))))))))
theorem frN_FX11_run_47 {h0 : ph_H}  (h : ph_H) (e : EQ pN h0 h) : EQ pN h0 (FX11_run_47 h).2 := (EQ_s rfl (EQ_s rfl (EQ_s rfl e)))
theorem frN_FX11_run_40 {h0 : ph_H}  (h : ph_H) (e : EQ pN h0 h) : EQ pN h0 (FX11_run_40 h).2 := (frN_FX11_run_47   _ (frN_FX4_forget   _ e))
theorem frN_FX11_run_29 {h0 : ph_H}  (h : ph_H) (e : EQ pN h0 h) : EQ pN h0 (FX11_run_29 h).2 := (frN_FX11_run_40   _ (frN_FX10_record_s   _ e))
theorem frN_FX11_run_11 {h0 : ph_H}  (h : ph_H) (e : EQ pN h0 h) : EQ pN h0 (FX11_run_11 h).2 := (frN_FX11_run_29   _ (frN_FX3_begin_st _  _ e))
theorem frN_FX11_run {h0 : ph_H}  (h : ph_H) (e : EQ pN h0 h) : EQ pN h0 (FX11_run h).2 := (frN_FX11_run_11   _ (frN_FX5_become_tn   _ e))
def pCR (k i : Nat) : Bool := match k with
  | 0 => i == 8 || i == 10
  | 8 => true
  | 9 => true
  | 10 => true
  | 11 => true
  | 12 => true
  | 13 => true
  | 14 => true
  | 35 => true
  | 36 => true
  | 37 => true
  | 38 => true
  | 39 => true
  | 40 => true
  | 41 => true
  | 42 => true
  | 43 => true
  | 44 => true
  | 45 => true
  | 46 => true
  | _ => false
theorem pCR_57 (n i : Nat) : pCR (57 + n) i = false := by
  unfold pCR
  split <;> first | omega | rfl
theorem frCR_FX11_code {h0 : ph_H} (a0 : Int32) (a1 : Int32) (a2 : Int32) (a3 : Int32) (a4 : Int32) (h : ph_H) (e : EQ pCR h0 h) : EQ pCR h0 (FX11_code a0 a1 a2 a3 a4 h).2 := (EQ2_if e (EQ2_if e (EQ2_if (EQ2_if (EQ_s rfl (EQ_s rfl (EQ_s rfl (EQ_s rfl (EQ_s rfl e))))) e) e)))
theorem frCR_FX11_clear {h0 : ph_H} (a0 : Int32) (h : ph_H) (e : EQ pCR h0 h) : EQ pCR h0 (FX11_clear a0 h).2 := (EQ2_if e (EQ_s rfl e))
theorem frCR_FX11_cell {h0 : ph_H} (a0 : Int32) (a1 : Int32) (h : ph_H) (e : EQ pCR h0 h) : EQ pCR h0 (FX11_cell a0 a1 h).2 := (EQ2_if e (EQ_s rfl e))
theorem frCR_FX11_input {h0 : ph_H} (a0 : Int32) (h : ph_H) (e : EQ pCR h0 h) : EQ pCR h0 (FX11_input a0 h).2 := (EQ2_if (EQ_s rfl (EQ_s rfl e)) e)
theorem frCR_FX11_turn {h0 : ph_H} (a0 : Int32) (a1 : Int32) (h : ph_H) (e : EQ pCR h0 h) : EQ pCR h0 (FX11_turn a0 a1 h).2 := (EQ2_if e (EQ2_if e (EQ2_if (EQ2_if (EQ_s rfl (EQ_s rfl (EQ_s rfl e))) e) e)))
theorem frCR_FX11_freely {h0 : ph_H}  (h : ph_H) (e : EQ pCR h0 h) : EQ pCR h0 (FX11_freely h).2 := (EQ_s rfl e)
def pV (k i : Nat) : Bool := match k with
  | 0 => i == 7 || i == 9 || i == 36 || i == 37 || i == 38 || i == 39 || i == 40 || i == 41 || i == 42 || i == 60
  | 1 => true
  | 2 => true
  | 3 => true
  | 4 => true
  | 5 => true
  | 6 => true
  | 7 => true
  | 8 => true
  | 9 => true
  | 20 => true
  | 21 => true
  | 22 => true
  | 23 => true
  | 24 => true
  | 25 => true
  | 26 => true
  | 27 => true
  | 28 => true
  | 29 => true
  | 30 => true
  | 31 => true
  | 32 => true
  | 33 => true
  | 34 => true
  | 35 => true
  | 36 => true
  | 37 => true
  | 38 => true
  | _ => false
theorem frV_FX12_begin_36 {h0 : ph_H} (L2 : Int32 → ph_H → ph_H) (x1 : Int32) (s0 : Int32) (s1 : Int32) (hL2 : ∀ (y0 : Int32) (h : ph_H), EQ pV h0 h → EQ pV h0 (L2 y0 h)) (h : ph_H) (e : EQ pV h0 h) : EQ pV h0 (FX12_begin_36 L2 x1 s0 s1 h) := (hL2 _ _ (EQ_s rfl e))
theorem frV_FX12_begin_85 {h0 : ph_H} (L45 : Int32 → ph_H → ph_H) (x1 : Int32) (s0 : Int32) (s1 : Int32) (hL45 : ∀ (y0 : Int32) (h : ph_H), EQ pV h0 h → EQ pV h0 (L45 y0 h)) (h : ph_H) (e : EQ pV h0 h) : EQ pV h0 (FX12_begin_85 L45 x1 s0 s1 h) := (hL45 _ _ (EQ_s rfl (EQ_s rfl (EQ_s rfl e))))
theorem frV_FX12_begin_70 {h0 : ph_H} (L45 : Int32 → ph_H → ph_H) (x1 : Int32) (s0 : Int32) (s1 : Int32) (hL45 : ∀ (y0 : Int32) (h : ph_H), EQ pV h0 h → EQ pV h0 (L45 y0 h)) (h : ph_H) (e : EQ pV h0 h) : EQ pV h0 (FX12_begin_70 L45 x1 s0 s1 h) := (EQ_if (frV_FX12_begin_85 _ _ _ _ hL45 _ (EQ_s rfl e)) (frV_FX12_begin_85 _ _ _ _ hL45 _ (EQ_s rfl e)))
theorem frV_FX12_begin_45 {h0 : ph_H}  : ∀ (q : Nat) (y0 : Int32) (h : ph_H), EQ pV h0 h → EQ pV h0 (FX12_begin_45  q y0 h) := by
  intro q
  induction q with
  | zero =>
    intro y0 h e
    exact e
  | succ q ih =>
    intro y0 h e
    exact (EQ_if (EQ_s rfl (EQ_s rfl (EQ_s rfl (EQ_s rfl (EQ_s rfl (EQ_s rfl e)))))) (EQ_if (frV_FX12_begin_70 _ _ _ _ ih _ e) (frV_FX12_begin_70 _ _ _ _ ih _ e)))
theorem frV_FX12_begin_2 {h0 : ph_H}  : ∀ (q : Nat) (y0 : Int32) (h : ph_H), EQ pV h0 h → EQ pV h0 (FX12_begin_2  q y0 h) := by
  intro q
  induction q with
  | zero =>
    intro y0 h e
    exact e
  | succ q ih =>
    intro y0 h e
    exact (EQ_if (frV_FX12_begin_45   _ _ _ e) (EQ_if (frV_FX12_begin_36 _ _ _ _ ih _ (EQ_s rfl e)) (frV_FX12_begin_36 _ _ _ _ ih _ (EQ_s rfl e))))
theorem frV_FX12_begin {h0 : ph_H}  (h : ph_H) (e : EQ pV h0 h) : EQ pV h0 (FX12_begin h) := (frV_FX12_begin_2   _ _ _ e)
theorem frV_FX12_goTo_19 {h0 : ph_H} (s0 : Int32) (h : ph_H) (e : EQ pV h0 h) : EQ pV h0 (FX12_goTo_19 s0 h) := (EQ_s rfl e)
theorem frV_FX12_goTo {h0 : ph_H} (a0 : Int32) (a1 : Int32) (h : ph_H) (e : EQ pV h0 h) : EQ pV h0 (FX12_goTo a0 a1 h) := (EQ_if (frV_FX12_goTo_19 _  _ e) (EQ_if (EQ_s rfl e) (frV_FX12_goTo_19 _  _ e)))
theorem frV_FX12_set {h0 : ph_H} (a0 : Int32) (a1 : Int32) (a2 : Int32) (h : ph_H) (e : EQ pV h0 h) : EQ pV h0 (FX12_set a0 a1 a2 h) := (EQ_s rfl (EQ_s rfl e))
theorem frV_FX12_newThing_29 {h0 : ph_H}  : ∀ (q : Nat) (y0 : Int32) (y1 : Int32) (h : ph_H), EQ pV h0 h → EQ pV h0 (FX12_newThing_29  q y0 y1 h).2 := by
  intro q
  induction q with
  | zero =>
    intro y0 y1 h e
    exact e
  | succ q ih =>
    intro y0 y1 h e
    exact (EQ2_if (EQ_s rfl e) (ih _ _ _ (EQ_s rfl e)))
theorem frV_FX12_newThing {h0 : ph_H} (a0 : Int32) (a1 : Int32) (h : ph_H) (e : EQ pV h0 h) : EQ pV h0 (FX12_newThing a0 a1 h).2 := (frV_FX12_newThing_29   _ _ _ _ (EQ_s rfl (EQ_s rfl (EQ_s rfl e))))
theorem frV_FX12_work_88 {h0 : ph_H}  (h : ph_H) (e : EQ pV h0 h) : EQ pV h0 (FX12_work_88 h) := e
theorem frV_FX12_work_111 {h0 : ph_H}  (h : ph_H) (e : EQ pV h0 h) : EQ pV h0 (FX12_work_111 h) := e
theorem frV_FX12_work_134 {h0 : ph_H}  (h : ph_H) (e : EQ pV h0 h) : EQ pV h0 (FX12_work_134 h) := e
theorem frV_FX12_work_155 {h0 : ph_H}  (h : ph_H) (e : EQ pV h0 h) : EQ pV h0 (FX12_work_155 h) := e
theorem frV_FX12_work_152 {h0 : ph_H} (s0 : Int32) (s1 : Int32) (s2 : Int32) (h : ph_H) (e : EQ pV h0 h) : EQ pV h0 (FX12_work_152 s0 s1 s2 h) := (frV_FX12_work_155   _ (frV_FX12_set _ _ _  _ e))
theorem frV_FX12_work_212 {h0 : ph_H}  (h : ph_H) (e : EQ pV h0 h) : EQ pV h0 (FX12_work_212 h) := e
theorem frV_FX12_work_435 {h0 : ph_H} (L391 : Int32 → Int32 → ph_H → ph_H) (x3 : Int32) (x6 : Int32) (hL391 : ∀ (y0 : Int32) (y1 : Int32) (h : ph_H), EQ pV h0 h → EQ pV h0 (L391 y0 y1 h)) (h : ph_H) (e : EQ pV h0 h) : EQ pV h0 (FX12_work_435 L391 x3 x6 h) := (hL391 _ _ _ e)
theorem frV_FX12_work_391 {h0 : ph_H}  : ∀ (q : Nat) (y0 : Int32) (y1 : Int32) (h : ph_H), EQ pV h0 h → EQ pV h0 (FX12_work_391  q y0 y1 h) := by
  intro q
  induction q with
  | zero =>
    intro y0 y1 h e
    exact e
  | succ q ih =>
    intro y0 y1 h e
    exact (EQ_if e (EQ_if (frV_FX12_work_435 _ _ _ ih _ (EQ_s rfl (EQ_s rfl e))) (frV_FX12_work_435 _ _ _ ih _ e)))
theorem frV_FX12_work {h0 : ph_H} (a0 : Int32) (a1 : Int32) (a2 : Int32) (a3 : Int32) (a4 : Int32) (h : ph_H) (e : EQ pV h0 h) : EQ pV h0 (FX12_work a0 a1 a2 a3 a4 h) := (EQ_if (frV_FX12_work_88   _ (frV_FX12_set _ _ _  _ e)) (EQ_if (frV_FX12_work_111   _ (frV_FX12_set _ _ _  _ e)) (EQ_if (frV_FX12_work_134   _ (frV_FX12_set _ _ _  _ e)) (EQ_if e (EQ_if e (EQ_if (frV_FX12_work_152 _ _ _  _ (frV_FX12_newThing _ _  _ e)) (EQ_if (frV_FX12_work_212   _ (frV_FX12_set _ _ _  _ (EQ_s rfl e))) (EQ_if (EQ_s rfl (EQ_s rfl e)) (EQ_if e (EQ_if (EQ_s rfl (EQ_s rfl (EQ_s rfl e))) (EQ_if (EQ_s rfl (EQ_s rfl (EQ_s rfl e))) (EQ_if (EQ_s rfl (EQ_s rfl (EQ_s rfl (EQ_s rfl e)))) (EQ_if (frV_FX12_work_391   _ _ _ _ (EQ_s rfl (EQ_s rfl e))) e)))))))))))))
theorem frV_FX12_workPlain_116 {h0 : ph_H}  (h : ph_H) (e : EQ pV h0 h) : EQ pV h0 (FX12_workPlain_116 h) := e
theorem frV_FX12_workPlain_153 {h0 : ph_H}  (h : ph_H) (e : EQ pV h0 h) : EQ pV h0 (FX12_workPlain_153 h) := e
theorem frV_FX12_workPlain_191 {h0 : ph_H}  (h : ph_H) (e : EQ pV h0 h) : EQ pV h0 (FX12_workPlain_191 h) := e
theorem frV_FX12_workPlain_222 {h0 : ph_H}  (h : ph_H) (e : EQ pV h0 h) : EQ pV h0 (FX12_workPlain_222 h) := e
theorem frV_FX12_workPlain_219 {h0 : ph_H} (s0 : Int32) (s1 : Int32) (s2 : Int32) (h : ph_H) (e : EQ pV h0 h) : EQ pV h0 (FX12_workPlain_219 s0 s1 s2 h) := (frV_FX12_workPlain_222   _ (frV_FX12_set _ _ _  _ e))
theorem frV_FX12_workPlain_206 {h0 : ph_H} (x3 : Int32) (s0 : Int32) (h : ph_H) (e : EQ pV h0 h) : EQ pV h0 (FX12_workPlain_206 x3 s0 h) := (frV_FX12_workPlain_219 _ _ _  _ (frV_FX12_newThing _ _  _ e))
theorem frV_FX12_workPlain_259 {h0 : ph_H}  (h : ph_H) (e : EQ pV h0 h) : EQ pV h0 (FX12_workPlain_259 h) := (EQ_s rfl e)
theorem frV_FX12_workPlain_256 {h0 : ph_H} (s0 : Int32) (s1 : Int32) (s2 : Int32) (h : ph_H) (e : EQ pV h0 h) : EQ pV h0 (FX12_workPlain_256 s0 s1 s2 h) := (frV_FX12_workPlain_259   _ (frV_FX12_set _ _ _  _ e))
theorem frV_FX12_workPlain {h0 : ph_H} (a0 : Int32) (a1 : Int32) (a2 : Int32) (a3 : Int32) (h : ph_H) (e : EQ pV h0 h) : EQ pV h0 (FX12_workPlain a0 a1 a2 a3 h) := (EQ_if (frV_FX12_workPlain_116   _ (frV_FX12_set _ _ _  _ e)) (EQ_if (frV_FX12_workPlain_153   _ (frV_FX12_set _ _ _  _ (EQ_s rfl e))) (EQ_if (frV_FX12_workPlain_191   _ (frV_FX12_set _ _ _  _ (EQ_s rfl e))) (EQ_if e (EQ_if e (EQ_if e (EQ_if e (EQ_if e (EQ_if e (EQ_if e (EQ_if e (EQ_if (EQ_if (frV_FX12_workPlain_206 _ _  _ e) (frV_FX12_workPlain_206 _ _  _ e)) (EQ_if e (EQ_if e (EQ_if e (EQ_if e (EQ_if (EQ_if (frV_FX12_workPlain_256 _ _ _  _ e) (frV_FX12_workPlain_256 _ _ _  _ e)) (EQ_if (EQ_s rfl (EQ_s rfl (EQ_s rfl e))) e))))))))))))))))))
theorem frV_FX12_instruct_251 {h0 : ph_H} (s0 : Int32) (s1 : Int32) (h : ph_H) (e : EQ pV h0 h) : EQ pV h0 (FX12_instruct_251 s0 s1 h) := (frV_FX12_goTo _ _  _ e)
theorem frV_FX12_instruct_204 {h0 : ph_H} (x1 : Int32) (x2 : Int32) (x6 : Int32) (x7 : Int32) (h : ph_H) (e : EQ pV h0 h) : EQ pV h0 (FX12_instruct_204 x1 x2 x6 x7 h) := (EQ_if e (EQ_if (frV_FX12_instruct_251 _ _  _ e) (EQ_if (frV_FX12_instruct_251 _ _  _ e) (frV_FX12_instruct_251 _ _  _ e))))
theorem frV_FX12_instruct_195 {h0 : ph_H} (x1 : Int32) (x2 : Int32) (x3 : Int32) (x4 : Int32) (x6 : Int32) (x7 : Int32) (h : ph_H) (e : EQ pV h0 h) : EQ pV h0 (FX12_instruct_195 x1 x2 x3 x4 x6 x7 h) := (frV_FX12_instruct_204 _ _ _ _  _ (frV_FX12_workPlain _ _ _ _  _ e))
theorem frV_FX12_instruct_177 {h0 : ph_H} (x1 : Int32) (x2 : Int32) (x3 : Int32) (x4 : Int32) (x5 : Int32) (x6 : Int32) (s0 : Int32) (h : ph_H) (e : EQ pV h0 h) : EQ pV h0 (FX12_instruct_177 x1 x2 x3 x4 x5 x6 s0 h) := (frV_FX12_instruct_195 _ _ _ _ _ _  _ (frV_FX12_work _ _ _ _ _  _ e))
theorem frV_FX12_instruct_149 {h0 : ph_H} (x1 : Int32) (x2 : Int32) (x3 : Int32) (x4 : Int32) (x5 : Int32) (s0 : Int32) (h : ph_H) (e : EQ pV h0 h) : EQ pV h0 (FX12_instruct_149 x1 x2 x3 x4 x5 s0 h) := (EQ_if (frV_FX12_instruct_177 _ _ _ _ _ _ _  _ e) (frV_FX12_instruct_177 _ _ _ _ _ _ _  _ e))
theorem frV_FX12_instruct_144 {h0 : ph_H} (x1 : Int32) (x2 : Int32) (x3 : Int32) (x4 : Int32) (x5 : Int32) (h : ph_H) (e : EQ pV h0 h) : EQ pV h0 (FX12_instruct_144 x1 x2 x3 x4 x5 h) := (frV_FX12_instruct_149 _ _ _ _ _ _  _ e)
theorem frV_FX12_instruct_148 {h0 : ph_H} (x1 : Int32) (x2 : Int32) (x3 : Int32) (x4 : Int32) (x5 : Int32) (h : ph_H) (e : EQ pV h0 h) : EQ pV h0 (FX12_instruct_148 x1 x2 x3 x4 x5 h) := (frV_FX12_instruct_149 _ _ _ _ _ _  _ e)
theorem frV_FX12_instruct_102 {h0 : ph_H} (x1 : Int32) (x2 : Int32) (x3 : Int32) (x4 : Int32) (x5 : Int32) (s0 : Int32) (h : ph_H) (e : EQ pV h0 h) : EQ pV h0 (FX12_instruct_102 x1 x2 x3 x4 x5 s0 h) := (EQ_if (EQ_if (frV_FX12_instruct_144 _ _ _ _ _  _ (EQ_s rfl e)) (EQ_if (EQ_if (frV_FX12_instruct_144 _ _ _ _ _  _ (EQ_s rfl e)) (frV_FX12_instruct_148 _ _ _ _ _  _ (EQ_s rfl e))) (frV_FX12_instruct_148 _ _ _ _ _  _ (EQ_s rfl e)))) (EQ_s rfl e))
theorem frV_FX12_instruct_98 {h0 : ph_H} (x1 : Int32) (x2 : Int32) (x3 : Int32) (x4 : Int32) (x5 : Int32) (h : ph_H) (e : EQ pV h0 h) : EQ pV h0 (FX12_instruct_98 x1 x2 x3 x4 x5 h) := (frV_FX12_instruct_102 _ _ _ _ _ _  _ e)
theorem frV_FX12_instruct {h0 : ph_H} (a0 : Int32) (a1 : Int32) (h : ph_H) (e : EQ pV h0 h) : EQ pV h0 (FX12_instruct a0 a1 h) := (EQ_if (EQ_if (frV_FX12_instruct_98 _ _ _ _ _  _ (EQ_s rfl e)) (frV_FX12_instruct_102 _ _ _ _ _ _  _ (EQ_s rfl e))) (frV_FX12_instruct_98 _ _ _ _ _  _ (EQ_s rfl e)))
theorem frV_FX12_step_154 {h0 : ph_H} (x1 : Int32) (h : ph_H) (e : EQ pV h0 h) : EQ pV h0 (FX12_step_154 x1 h) := (EQ_s rfl (EQ_s rfl e))
theorem frV_FX12_step_110 {h0 : ph_H} (x1 : Int32) (h : ph_H) (e : EQ pV h0 h) : EQ pV h0 (FX12_step_110 x1 h) := (frV_FX12_step_154 _  _ e)
theorem frV_FX12_step_148 {h0 : ph_H} (x1 : Int32) (x2 : Int32) (h : ph_H) (e : EQ pV h0 h) : EQ pV h0 (FX12_step_148 x1 x2 h) := (frV_FX12_step_154 _  _ (frV_FX12_instruct _ _  _ e))
theorem frV_FX12_step {h0 : ph_H} (a0 : Int32) (h : ph_H) (e : EQ pV h0 h) : EQ pV h0 (FX12_step a0 h) := (EQ_if (EQ_if (EQ_if (frV_FX12_step_148 _ _  _ (EQ_s rfl (EQ_s rfl (EQ_s rfl (EQ_s rfl (EQ_s rfl (EQ_s rfl e))))))) (EQ_if (EQ_s rfl (EQ_s rfl (EQ_s rfl (EQ_s rfl (EQ_s rfl (EQ_s rfl (EQ_s rfl e))))))) (frV_FX12_step_148 _ _  _ (EQ_s rfl (EQ_s rfl (EQ_s rfl (EQ_s rfl (EQ_s rfl (EQ_s rfl e))))))))) (frV_FX12_step_148 _ _  _ (EQ_s rfl (EQ_s rfl (EQ_s rfl (EQ_s rfl (EQ_s rfl (EQ_s rfl e)))))))) (frV_FX12_step_110 _  _ (frV_FX12_goTo _ _  _ (EQ_s rfl (EQ_s rfl (EQ_s rfl (EQ_s rfl (EQ_s rfl (EQ_s rfl (EQ_s rfl (EQ_s rfl (EQ_s rfl (EQ_s rfl e)))))))))))))
theorem frV_FX12_told {h0 : ph_H} (a0 : Int32) (h : ph_H) (e : EQ pV h0 h) : EQ pV h0 (FX12_told a0 h).2 := (EQ2_if (EQ_s rfl e) (EQ2_if (EQ_s rfl e) (EQ2_if (EQ_s rfl e) (EQ2_if (EQ_s rfl e) (EQ2_if (EQ_s rfl e) (EQ2_if (EQ_s rfl e) (EQ2_if (EQ_s rfl e) (EQ2_if (EQ_s rfl e) (EQ2_if (EQ_s rfl e) (EQ_s rfl e))))))))))
theorem frV_FX12_change_36 {h0 : ph_H}  (h : ph_H) (e : EQ pV h0 h) : EQ pV h0 (FX12_change_36 h).2 := e
theorem frV_FX12_change {h0 : ph_H} (a0 : Int32) (a1 : Int32) (h : ph_H) (e : EQ pV h0 h) : EQ pV h0 (FX12_change a0 a1 h).2 := (EQ2_if (EQ_s rfl e) (EQ2_if (frV_FX12_change_36   _ (EQ_s rfl e)) (EQ2_if (frV_FX12_change_36   _ (EQ_s rfl e)) (EQ2_if (frV_FX12_change_36   _ (EQ_s rfl e)) (EQ2_if (EQ_s rfl e) (EQ_s rfl e))))))
theorem frV_FX12_step_ {h0 : ph_H} (a0 : Int32) (a1 : Int32) (h : ph_H) (e : EQ pV h0 h) : EQ pV h0 (FX12_step_ a0 a1 h).2 := (EQ2_if (EQ_s rfl e) (EQ2_if (EQ_s rfl e) (EQ2_if (EQ_s rfl e) (EQ2_if (EQ_s rfl e) (EQ2_if (EQ_s rfl e) (EQ2_if (EQ_s rfl e) (EQ2_if (EQ_s rfl e) (EQ2_if (EQ_s rfl e) (EQ_s rfl e)))))))))
theorem frV_FX12_play_242 {h0 : ph_H} (L83 : Int32 → Int32 → ph_H → Int32 × ph_H) (x1 : Int32) (x3 : Int32) (hL83 : ∀ (y0 : Int32) (y1 : Int32) (h : ph_H), EQ pV h0 h → EQ pV h0 (L83 y0 y1 h).2) (h : ph_H) (e : EQ pV h0 h) : EQ pV h0 (FX12_play_242 L83 x1 x3 h).2 := (hL83 _ _ _ e)
theorem frV_FX12_play_203 {h0 : ph_H} (L83 : Int32 → Int32 → ph_H → Int32 × ph_H) (x1 : Int32) (x3 : Int32) (s0 : Int32) (hL83 : ∀ (y0 : Int32) (y1 : Int32) (h : ph_H), EQ pV h0 h → EQ pV h0 (L83 y0 y1 h).2) (h : ph_H) (e : EQ pV h0 h) : EQ pV h0 (FX12_play_203 L83 x1 x3 s0 h).2 := (frV_FX12_play_242 _ _ _ hL83 _ (EQ_s rfl e))
theorem frV_FX12_play_239 {h0 : ph_H} (L83 : Int32 → Int32 → ph_H → Int32 × ph_H) (x1 : Int32) (x3 : Int32) (s0 : Int32) (hL83 : ∀ (y0 : Int32) (y1 : Int32) (h : ph_H), EQ pV h0 h → EQ pV h0 (L83 y0 y1 h).2) (h : ph_H) (e : EQ pV h0 h) : EQ pV h0 (FX12_play_239 L83 x1 x3 s0 h).2 := (frV_FX12_play_242 _ _ _ hL83 _ (EQ_s rfl e))
theorem frV_FX12_play_215 {h0 : ph_H} (L83 : Int32 → Int32 → ph_H → Int32 × ph_H) (x1 : Int32) (x3 : Int32) (hL83 : ∀ (y0 : Int32) (y1 : Int32) (h : ph_H), EQ pV h0 h → EQ pV h0 (L83 y0 y1 h).2) (h : ph_H) (e : EQ pV h0 h) : EQ pV h0 (FX12_play_215 L83 x1 x3 h).2 := (EQ2_if (EQ2_if (frV_FX12_play_239 _ _ _ _ hL83 _ e) (frV_FX12_play_239 _ _ _ _ hL83 _ e)) (frV_FX12_play_239 _ _ _ _ hL83 _ e))
theorem frV_FX12_play_166 {h0 : ph_H} (L83 : Int32 → Int32 → ph_H → Int32 × ph_H) (x1 : Int32) (x3 : Int32) (x5 : Int32) (hL83 : ∀ (y0 : Int32) (y1 : Int32) (h : ph_H), EQ pV h0 h → EQ pV h0 (L83 y0 y1 h).2) (h : ph_H) (e : EQ pV h0 h) : EQ pV h0 (FX12_play_166 L83 x1 x3 x5 h).2 := (EQ2_if (EQ2_if (EQ2_if (frV_FX12_play_203 _ _ _ _ hL83 _ e) (frV_FX12_play_203 _ _ _ _ hL83 _ e)) (frV_FX12_play_215 _ _ _ hL83 _ (frV_FX12_step _  _ e))) (frV_FX12_play_242 _ _ _ hL83 _ (EQ_s rfl e)))
theorem frV_FX12_play_132 {h0 : ph_H} (L83 : Int32 → Int32 → ph_H → Int32 × ph_H) (x1 : Int32) (x3 : Int32) (x4 : Int32) (s0 : Int32) (hL83 : ∀ (y0 : Int32) (y1 : Int32) (h : ph_H), EQ pV h0 h → EQ pV h0 (L83 y0 y1 h).2) (h : ph_H) (e : EQ pV h0 h) : EQ pV h0 (FX12_play_132 L83 x1 x3 x4 s0 h).2 := (EQ2_if (frV_FX12_play_166 _ _ _ _ hL83 _ e) (EQ2_if (frV_FX12_play_166 _ _ _ _ hL83 _ e) (EQ2_if (frV_FX12_play_242 _ _ _ hL83 _ (EQ_s rfl e)) (frV_FX12_play_166 _ _ _ _ hL83 _ e))))
theorem frV_FX12_play_103 {h0 : ph_H} (L83 : Int32 → Int32 → ph_H → Int32 × ph_H) (x1 : Int32) (x3 : Int32) (s0 : Int32) (hL83 : ∀ (y0 : Int32) (y1 : Int32) (h : ph_H), EQ pV h0 h → EQ pV h0 (L83 y0 y1 h).2) (h : ph_H) (e : EQ pV h0 h) : EQ pV h0 (FX12_play_103 L83 x1 x3 s0 h).2 := (EQ2_if (frV_FX12_play_132 _ _ _ _ _ hL83 _ e) (frV_FX12_play_132 _ _ _ _ _ hL83 _ e))
theorem frV_FX12_play_83 {h0 : ph_H}  : ∀ (q : Nat) (y0 : Int32) (y1 : Int32) (h : ph_H), EQ pV h0 h → EQ pV h0 (FX12_play_83  q y0 y1 h).2 := by
  intro q
  induction q with
  | zero =>
    intro y0 y1 h e
    exact e
  | succ q ih =>
    intro y0 y1 h e
    exact (EQ2_if (EQ_s rfl e) (EQ2_if (frV_FX12_play_103 _ _ _ _ ih _ e) (frV_FX12_play_103 _ _ _ _ ih _ e)))
theorem frV_FX12_play_82 {h0 : ph_H} (x1 : Int32) (s0 : Int32) (h : ph_H) (e : EQ pV h0 h) : EQ pV h0 (FX12_play_82 x1 s0 h).2 := (frV_FX12_play_83   _ _ _ _ e)
theorem frV_FX12_play_59 {h0 : ph_H} (x1 : Int32) (h : ph_H) (e : EQ pV h0 h) : EQ pV h0 (FX12_play_59 x1 h).2 := (EQ2_if (frV_FX12_play_82 _ _  _ (EQ_s rfl e)) (frV_FX12_play_82 _ _  _ (EQ_s rfl e)))
theorem frV_FX12_play {h0 : ph_H} (a0 : Int32) (a1 : Int32) (h : ph_H) (e : EQ pV h0 h) : EQ pV h0 (FX12_play a0 a1 h).2 := (EQ2_if (EQ_s rfl e) (EQ2_if (EQ_s rfl e) (EQ2_if (EQ_s rfl e) (frV_FX12_play_59 _  _ (frV_FX12_begin   _ (EQ_s rfl (EQ_s rfl (EQ_s rfl e))))))))
theorem frV_FX12_ended {h0 : ph_H}  (h : ph_H) (e : EQ pV h0 h) : EQ pV h0 (FX12_ended h).2 := (EQ_s rfl e)
theorem frV_FX12_value_119 {h0 : ph_H} (x3 : Int32) (s0 : Int32) (s1 : Int32) (h : ph_H) (e : EQ pV h0 h) : EQ pV h0 (FX12_value_119 x3 s0 s1 h).2 := (EQ2_if e e)
theorem frV_FX12_value_83 {h0 : ph_H} (x1 : Int32) (x2 : Int32) (x3 : Int32) (s0 : Int32) (h : ph_H) (e : EQ pV h0 h) : EQ pV h0 (FX12_value_83 x1 x2 x3 s0 h).2 := (EQ2_if (EQ2_if (frV_FX12_value_119 _ _ _  _ (EQ_s rfl e)) (frV_FX12_value_119 _ _ _  _ (EQ_s rfl e))) (EQ_s rfl e))
theorem frV_FX12_value_59 {h0 : ph_H} (x1 : Int32) (x2 : Int32) (x3 : Int32) (s0 : Int32) (h : ph_H) (e : EQ pV h0 h) : EQ pV h0 (FX12_value_59 x1 x2 x3 s0 h).2 := (EQ2_if (frV_FX12_value_83 _ _ _ _  _ e) (EQ2_if (frV_FX12_value_83 _ _ _ _  _ e) (frV_FX12_value_83 _ _ _ _  _ e)))
theorem frV_FX12_value_54 {h0 : ph_H} (x1 : Int32) (x2 : Int32) (x3 : Int32) (h : ph_H) (e : EQ pV h0 h) : EQ pV h0 (FX12_value_54 x1 x2 x3 h).2 := (frV_FX12_value_59 _ _ _ _  _ e)
theorem frV_FX12_value_58 {h0 : ph_H} (x1 : Int32) (x2 : Int32) (x3 : Int32) (h : ph_H) (e : EQ pV h0 h) : EQ pV h0 (FX12_value_58 x1 x2 x3 h).2 := (frV_FX12_value_59 _ _ _ _  _ e)
theorem frV_FX12_value {h0 : ph_H} (a0 : Int32) (a1 : Int32) (a2 : Int32) (h : ph_H) (e : EQ pV h0 h) : EQ pV h0 (FX12_value a0 a1 a2 h).2 := (EQ2_if (frV_FX12_value_58 _ _ _  _ e) (EQ2_if (EQ2_if (frV_FX12_value_58 _ _ _  _ e) (frV_FX12_value_54 _ _ _  _ e)) (EQ2_if (frV_FX12_value_58 _ _ _  _ e) (EQ2_if (frV_FX12_value_58 _ _ _  _ e) (frV_FX12_value_54 _ _ _  _ e)))))
theorem frV_FX12_thing {h0 : ph_H} (a0 : Int32) (a1 : Int32) (h : ph_H) (e : EQ pV h0 h) : EQ pV h0 (FX12_thing a0 a1 h).2 := (EQ2_if (EQ_s rfl e) (EQ2_if (EQ_s rfl e) (EQ2_if (EQ_s rfl e) (EQ2_if (EQ_s rfl e) (EQ2_if (EQ_s rfl e) (EQ2_if (EQ_s rfl e) (EQ_s rfl e)))))))
theorem frV_FX12_place_79 {h0 : ph_H} (x1 : Int32) (x2 : Int32) (x3 : Int32) (s0 : Int32) (h : ph_H) (e : EQ pV h0 h) : EQ pV h0 (FX12_place_79 x1 x2 x3 s0 h).2 := (EQ2_if (EQ_s rfl e) (EQ_s rfl e))
theorem frV_FX12_place_57 {h0 : ph_H} (x1 : Int32) (x2 : Int32) (s0 : Int32) (h : ph_H) (e : EQ pV h0 h) : EQ pV h0 (FX12_place_57 x1 x2 s0 h).2 := (EQ2_if (frV_FX12_place_79 _ _ _ _  _ e) (EQ2_if (frV_FX12_place_79 _ _ _ _  _ e) (frV_FX12_place_79 _ _ _ _  _ e)))
theorem frV_FX12_place_56 {h0 : ph_H} (x1 : Int32) (x2 : Int32) (h : ph_H) (e : EQ pV h0 h) : EQ pV h0 (FX12_place_56 x1 x2 h).2 := (frV_FX12_place_57 _ _ _  _ e)
theorem frV_FX12_place {h0 : ph_H} (a0 : Int32) (a1 : Int32) (h : ph_H) (e : EQ pV h0 h) : EQ pV h0 (FX12_place a0 a1 h).2 := (EQ2_if (frV_FX12_place_56 _ _  _ e) (EQ2_if (EQ2_if (frV_FX12_place_56 _ _  _ e) (frV_FX12_place_57 _ _ _  _ e)) (frV_FX12_place_56 _ _  _ e)))
theorem frV_FX12_thread {h0 : ph_H} (a0 : Int32) (a1 : Int32) (h : ph_H) (e : EQ pV h0 h) : EQ pV h0 (FX12_thread a0 a1 h).2 := (EQ2_if (EQ_s rfl e) (EQ2_if (EQ_s rfl e) (EQ2_if (EQ_s rfl e) (EQ2_if (EQ_s rfl e) (EQ_s rfl e)))))
theorem frV_FX12_last_63 {h0 : ph_H} (L36 : Int32 → Int32 → Int32 → Int32 → ph_H → Int32 × ph_H) (x1 : Int32) (x2 : Int32) (x4 : Int32) (s0 : Int32) (hL36 : ∀ (y0 : Int32) (y1 : Int32) (y2 : Int32) (y3 : Int32) (h : ph_H), EQ pV h0 h → EQ pV h0 (L36 y0 y1 y2 y3 h).2) (h : ph_H) (e : EQ pV h0 h) : EQ pV h0 (FX12_last_63 L36 x1 x2 x4 s0 h).2 := (hL36 _ _ _ _ _ e)
theorem frV_FX12_last_62 {h0 : ph_H} (L36 : Int32 → Int32 → Int32 → Int32 → ph_H → Int32 × ph_H) (x1 : Int32) (x2 : Int32) (x3 : Int32) (x4 : Int32) (hL36 : ∀ (y0 : Int32) (y1 : Int32) (y2 : Int32) (y3 : Int32) (h : ph_H), EQ pV h0 h → EQ pV h0 (L36 y0 y1 y2 y3 h).2) (h : ph_H) (e : EQ pV h0 h) : EQ pV h0 (FX12_last_62 L36 x1 x2 x3 x4 h).2 := (frV_FX12_last_63 _ _ _ _ _ hL36 _ e)
theorem frV_FX12_last_36 {h0 : ph_H}  : ∀ (q : Nat) (y0 : Int32) (y1 : Int32) (y2 : Int32) (y3 : Int32) (h : ph_H), EQ pV h0 h → EQ pV h0 (FX12_last_36  q y0 y1 y2 y3 h).2 := by
  intro q
  induction q with
  | zero =>
    intro y0 y1 y2 y3 h e
    exact e
  | succ q ih =>
    intro y0 y1 y2 y3 h e
    exact (EQ2_if e (EQ2_if (EQ2_if (frV_FX12_last_62 _ _ _ _ _ ih _ e) (frV_FX12_last_63 _ _ _ _ _ ih _ e)) (frV_FX12_last_62 _ _ _ _ _ ih _ e)))
theorem frV_FX12_last {h0 : ph_H} (a0 : Int32) (a1 : Int32) (h : ph_H) (e : EQ pV h0 h) : EQ pV h0 (FX12_last a0 a1 h).2 := (EQ2_if (EQ_s rfl e) (EQ2_if (EQ_s rfl e) (frV_FX12_last_36   _ _ _ _ _ _ (EQ_s rfl e))))
theorem frV_FX12_next_59 {h0 : ph_H} (L35 : Int32 → Int32 → ph_H → Int32 × ph_H) (x1 : Int32) (x3 : Int32) (hL35 : ∀ (y0 : Int32) (y1 : Int32) (h : ph_H), EQ pV h0 h → EQ pV h0 (L35 y0 y1 h).2) (h : ph_H) (e : EQ pV h0 h) : EQ pV h0 (FX12_next_59 L35 x1 x3 h).2 := (hL35 _ _ _ e)
theorem frV_FX12_next_35 {h0 : ph_H}  : ∀ (q : Nat) (y0 : Int32) (y1 : Int32) (h : ph_H), EQ pV h0 h → EQ pV h0 (FX12_next_35  q y0 y1 h).2 := by
  intro q
  induction q with
  | zero =>
    intro y0 y1 h e
    exact e
  | succ q ih =>
    intro y0 y1 h e
    exact (EQ2_if e (EQ2_if (EQ2_if (frV_FX12_next_59 _ _ _ ih _ e) e) (frV_FX12_next_59 _ _ _ ih _ e)))
theorem frV_FX12_next {h0 : ph_H} (a0 : Int32) (a1 : Int32) (h : ph_H) (e : EQ pV h0 h) : EQ pV h0 (FX12_next a0 a1 h).2 := (EQ2_if (EQ_s rfl e) (EQ2_if (EQ_s rfl e) (frV_FX12_next_35   _ _ _ _ (EQ_s rfl e))))
theorem frV_FX12_when_166 {h0 : ph_H} (L54 : Int32 → Int32 → Int32 → Int32 → Int32 → Int32 → Int32 → Int32 → ph_H → Int32 × ph_H) (x1 : Int32) (x2 : Int32) (x3 : Int32) (x4 : Int32) (x5 : Int32) (x7 : Int32) (x8 : Int32) (x9 : Int32) (hL54 : ∀ (y0 : Int32) (y1 : Int32) (y2 : Int32) (y3 : Int32) (y4 : Int32) (y5 : Int32) (y6 : Int32) (y7 : Int32) (h : ph_H), EQ pV h0 h → EQ pV h0 (L54 y0 y1 y2 y3 y4 y5 y6 y7 h).2) (h : ph_H) (e : EQ pV h0 h) : EQ pV h0 (FX12_when_166 L54 x1 x2 x3 x4 x5 x7 x8 x9 h).2 := (hL54 _ _ _ _ _ _ _ _ _ e)
theorem frV_FX12_when_163 {h0 : ph_H} (L54 : Int32 → Int32 → Int32 → Int32 → Int32 → Int32 → Int32 → Int32 → ph_H → Int32 × ph_H) (x1 : Int32) (x2 : Int32) (x3 : Int32) (x4 : Int32) (x5 : Int32) (x7 : Int32) (x8 : Int32) (x9 : Int32) (hL54 : ∀ (y0 : Int32) (y1 : Int32) (y2 : Int32) (y3 : Int32) (y4 : Int32) (y5 : Int32) (y6 : Int32) (y7 : Int32) (h : ph_H), EQ pV h0 h → EQ pV h0 (L54 y0 y1 y2 y3 y4 y5 y6 y7 h).2) (h : ph_H) (e : EQ pV h0 h) : EQ pV h0 (FX12_when_163 L54 x1 x2 x3 x4 x5 x7 x8 x9 h).2 := (frV_FX12_when_166 _ _ _ _ _ _ _ _ _ hL54 _ e)
theorem frV_FX12_when_126 {h0 : ph_H} (L54 : Int32 → Int32 → Int32 → Int32 → Int32 → Int32 → Int32 → Int32 → ph_H → Int32 × ph_H) (x1 : Int32) (x2 : Int32) (x3 : Int32) (x4 : Int32) (x5 : Int32) (x6 : Int32) (x7 : Int32) (x8 : Int32) (x9 : Int32) (hL54 : ∀ (y0 : Int32) (y1 : Int32) (y2 : Int32) (y3 : Int32) (y4 : Int32) (y5 : Int32) (y6 : Int32) (y7 : Int32) (h : ph_H), EQ pV h0 h → EQ pV h0 (L54 y0 y1 y2 y3 y4 y5 y6 y7 h).2) (h : ph_H) (e : EQ pV h0 h) : EQ pV h0 (FX12_when_126 L54 x1 x2 x3 x4 x5 x6 x7 x8 x9 h).2 := (EQ2_if (EQ2_if (frV_FX12_when_166 _ _ _ _ _ _ _ _ _ hL54 _ e) (EQ2_if (EQ2_if (frV_FX12_when_163 _ _ _ _ _ _ _ _ _ hL54 _ e) (EQ2_if e e)) (frV_FX12_when_163 _ _ _ _ _ _ _ _ _ hL54 _ e))) (frV_FX12_when_166 _ _ _ _ _ _ _ _ _ hL54 _ e))
theorem frV_FX12_when_110 {h0 : ph_H} (L54 : Int32 → Int32 → Int32 → Int32 → Int32 → Int32 → Int32 → Int32 → ph_H → Int32 × ph_H) (x1 : Int32) (x2 : Int32) (x3 : Int32) (x4 : Int32) (x5 : Int32) (x6 : Int32) (x7 : Int32) (x8 : Int32) (s0 : Int32) (hL54 : ∀ (y0 : Int32) (y1 : Int32) (y2 : Int32) (y3 : Int32) (y4 : Int32) (y5 : Int32) (y6 : Int32) (y7 : Int32) (h : ph_H), EQ pV h0 h → EQ pV h0 (L54 y0 y1 y2 y3 y4 y5 y6 y7 h).2) (h : ph_H) (e : EQ pV h0 h) : EQ pV h0 (FX12_when_110 L54 x1 x2 x3 x4 x5 x6 x7 x8 s0 h).2 := (EQ2_if (frV_FX12_when_126 _ _ _ _ _ _ _ _ _ _ hL54 _ e) (EQ2_if (frV_FX12_when_126 _ _ _ _ _ _ _ _ _ _ hL54 _ e) (frV_FX12_when_126 _ _ _ _ _ _ _ _ _ _ hL54 _ e)))
theorem frV_FX12_when_109 {h0 : ph_H} (L54 : Int32 → Int32 → Int32 → Int32 → Int32 → Int32 → Int32 → Int32 → ph_H → Int32 × ph_H) (x1 : Int32) (x2 : Int32) (x3 : Int32) (x4 : Int32) (x5 : Int32) (x6 : Int32) (x7 : Int32) (x8 : Int32) (hL54 : ∀ (y0 : Int32) (y1 : Int32) (y2 : Int32) (y3 : Int32) (y4 : Int32) (y5 : Int32) (y6 : Int32) (y7 : Int32) (h : ph_H), EQ pV h0 h → EQ pV h0 (L54 y0 y1 y2 y3 y4 y5 y6 y7 h).2) (h : ph_H) (e : EQ pV h0 h) : EQ pV h0 (FX12_when_109 L54 x1 x2 x3 x4 x5 x6 x7 x8 h).2 := (frV_FX12_when_110 _ _ _ _ _ _ _ _ _ _ hL54 _ e)
theorem frV_FX12_when_54 {h0 : ph_H}  : ∀ (q : Nat) (y0 : Int32) (y1 : Int32) (y2 : Int32) (y3 : Int32) (y4 : Int32) (y5 : Int32) (y6 : Int32) (y7 : Int32) (h : ph_H), EQ pV h0 h → EQ pV h0 (FX12_when_54  q y0 y1 y2 y3 y4 y5 y6 y7 h).2 := by
  intro q
  induction q with
  | zero =>
    intro y0 y1 y2 y3 y4 y5 y6 y7 h e
    exact e
  | succ q ih =>
    intro y0 y1 y2 y3 y4 y5 y6 y7 h e
    exact (EQ2_if (EQ2_if e e) (EQ2_if (frV_FX12_when_109 _ _ _ _ _ _ _ _ _ ih _ e) (EQ2_if (EQ2_if (frV_FX12_when_110 _ _ _ _ _ _ _ _ _ _ ih _ e) (frV_FX12_when_109 _ _ _ _ _ _ _ _ _ ih _ e)) (frV_FX12_when_109 _ _ _ _ _ _ _ _ _ ih _ e))))
theorem frV_FX12_when {h0 : ph_H} (a0 : Int32) (a1 : Int32) (a2 : Int32) (a3 : Int32) (h : ph_H) (e : EQ pV h0 h) : EQ pV h0 (FX12_when a0 a1 a2 a3 h).2 := (EQ2_if (EQ_s rfl e) (EQ2_if (EQ_s rfl e) (EQ2_if (EQ_s rfl e) (frV_FX12_when_54   _ _ _ _ _ _ _ _ _ _ (EQ_s rfl e)))))
theorem frV_FX12_findAhead_147 {h0 : ph_H} (L15 : Int32 → ph_H → ph_H) (L53 : Int32 → Int32 → ph_H → ph_H) (L96 : Int32 → Int32 → Int32 → ph_H → ph_H) (x1 : Int32) (x2 : Int32) (x3 : Int32) (s0 : Int32) (s1 : Int32) (hL15 : ∀ (y0 : Int32) (h : ph_H), EQ pV h0 h → EQ pV h0 (L15 y0 h)) (hL53 : ∀ (y0 : Int32) (y1 : Int32) (h : ph_H), EQ pV h0 h → EQ pV h0 (L53 y0 y1 h)) (hL96 : ∀ (y0 : Int32) (y1 : Int32) (y2 : Int32) (h : ph_H), EQ pV h0 h → EQ pV h0 (L96 y0 y1 y2 h)) (h : ph_H) (e : EQ pV h0 h) : EQ pV h0 (FX12_findAhead_147 L15 L53 L96 x1 x2 x3 s0 s1 h) := (hL96 _ _ _ _ (EQ_s rfl e))
theorem frV_FX12_findAhead_142 {h0 : ph_H} (L15 : Int32 → ph_H → ph_H) (L53 : Int32 → Int32 → ph_H → ph_H) (L96 : Int32 → Int32 → Int32 → ph_H → ph_H) (x1 : Int32) (x2 : Int32) (x3 : Int32) (s0 : Int32) (hL15 : ∀ (y0 : Int32) (h : ph_H), EQ pV h0 h → EQ pV h0 (L15 y0 h)) (hL53 : ∀ (y0 : Int32) (y1 : Int32) (h : ph_H), EQ pV h0 h → EQ pV h0 (L53 y0 y1 h)) (hL96 : ∀ (y0 : Int32) (y1 : Int32) (y2 : Int32) (h : ph_H), EQ pV h0 h → EQ pV h0 (L96 y0 y1 y2 h)) (h : ph_H) (e : EQ pV h0 h) : EQ pV h0 (FX12_findAhead_142 L15 L53 L96 x1 x2 x3 s0 h) := (frV_FX12_findAhead_147 _ _ _ _ _ _ _ _ hL15 hL53 hL96 _ e)
theorem frV_FX12_findAhead_154 {h0 : ph_H} (L15 : Int32 → ph_H → ph_H) (L53 : Int32 → Int32 → ph_H → ph_H) (x1 : Int32) (x2 : Int32) (hL15 : ∀ (y0 : Int32) (h : ph_H), EQ pV h0 h → EQ pV h0 (L15 y0 h)) (hL53 : ∀ (y0 : Int32) (y1 : Int32) (h : ph_H), EQ pV h0 h → EQ pV h0 (L53 y0 y1 h)) (h : ph_H) (e : EQ pV h0 h) : EQ pV h0 (FX12_findAhead_154 L15 L53 x1 x2 h) := (hL53 _ _ _ e)
theorem frV_FX12_findAhead_96 {h0 : ph_H} (L15 : Int32 → ph_H → ph_H) (L53 : Int32 → Int32 → ph_H → ph_H) (hL15 : ∀ (y0 : Int32) (h : ph_H), EQ pV h0 h → EQ pV h0 (L15 y0 h)) (hL53 : ∀ (y0 : Int32) (y1 : Int32) (h : ph_H), EQ pV h0 h → EQ pV h0 (L53 y0 y1 h)) : ∀ (q : Nat) (y0 : Int32) (y1 : Int32) (y2 : Int32) (h : ph_H), EQ pV h0 h → EQ pV h0 (FX12_findAhead_96 L15 L53 q y0 y1 y2 h) := by
  intro q
  induction q with
  | zero =>
    intro y0 y1 y2 h e
    exact e
  | succ q ih =>
    intro y0 y1 y2 h e
    exact (EQ_if (frV_FX12_findAhead_154 _ _ _ _ hL15 hL53 _ e) (EQ_if (EQ_if (frV_FX12_findAhead_147 _ _ _ _ _ _ _ _ hL15 hL53 ih _ e) (frV_FX12_findAhead_142 _ _ _ _ _ _ _ hL15 hL53 ih _ e)) (frV_FX12_findAhead_142 _ _ _ _ _ _ _ hL15 hL53 ih _ e)))
theorem frV_FX12_findAhead_53 {h0 : ph_H} (L15 : Int32 → ph_H → ph_H) (hL15 : ∀ (y0 : Int32) (h : ph_H), EQ pV h0 h → EQ pV h0 (L15 y0 h)) : ∀ (q : Nat) (y0 : Int32) (y1 : Int32) (h : ph_H), EQ pV h0 h → EQ pV h0 (FX12_findAhead_53 L15 q y0 y1 h) := by
  intro q
  induction q with
  | zero =>
    intro y0 y1 h e
    exact e
  | succ q ih =>
    intro y0 y1 h e
    exact (EQ_if (hL15 _ _ e) (EQ_if (EQ_if (frV_FX12_findAhead_154 _ _ _ _ hL15 ih _ e) (frV_FX12_findAhead_96 _ _ hL15 ih _ _ _ _ _ (EQ_s rfl e))) (frV_FX12_findAhead_154 _ _ _ _ hL15 ih _ e)))
theorem frV_FX12_findAhead_25 {h0 : ph_H} (L15 : Int32 → ph_H → ph_H) (hL15 : ∀ (y0 : Int32) (h : ph_H), EQ pV h0 h → EQ pV h0 (L15 y0 h)) : ∀ (q : Nat) (y0 : Int32) (y1 : Int32) (h : ph_H), EQ pV h0 h → EQ pV h0 (FX12_findAhead_25 L15 q y0 y1 h) := by
  intro q
  induction q with
  | zero =>
    intro y0 y1 h e
    exact e
  | succ q ih =>
    intro y0 y1 h e
    exact (EQ_if (frV_FX12_findAhead_53 _ hL15 _ _ _ _ e) (ih _ _ _ (EQ_s rfl e)))
theorem frV_FX12_findAhead_15 {h0 : ph_H}  : ∀ (q : Nat) (y0 : Int32) (h : ph_H), EQ pV h0 h → EQ pV h0 (FX12_findAhead_15  q y0 h) := by
  intro q
  induction q with
  | zero =>
    intro y0 h e
    exact e
  | succ q ih =>
    intro y0 h e
    exact (EQ_if e (frV_FX12_findAhead_25 _ ih _ _ _ _ e))
theorem frV_FX12_findAhead {h0 : ph_H}  (h : ph_H) (e : EQ pV h0 h) : EQ pV h0 (FX12_findAhead h) := (EQ_if (frV_FX12_findAhead_15   _ _ _ (EQ_s rfl e)) e)
theorem frV_FX12_ahead_48 {h0 : ph_H} (x1 : Int32) (x2 : Int32) (h : ph_H) (e : EQ pV h0 h) : EQ pV h0 (FX12_ahead_48 x1 x2 h).2 := (EQ2_if e e)
theorem frV_FX12_ahead {h0 : ph_H} (a0 : Int32) (a1 : Int32) (h : ph_H) (e : EQ pV h0 h) : EQ pV h0 (FX12_ahead a0 a1 h).2 := (EQ2_if (EQ_s rfl e) (EQ2_if (EQ_s rfl e) (EQ2_if (EQ_s rfl e) (frV_FX12_ahead_48 _ _  _ (frV_FX12_findAhead   _ (EQ_s rfl e))))))
theorem frV_FX12_race_115 {h0 : ph_H} (L38 : Int32 → Int32 → Int32 → Int32 → ph_H → Int32 × ph_H) (L50 : Int32 → Int32 → Int32 → Int32 → Int32 → ph_H → Int32 × ph_H) (x1 : Int32) (x2 : Int32) (x4 : Int32) (x5 : Int32) (s0 : Int32) (s1 : Int32) (hL38 : ∀ (y0 : Int32) (y1 : Int32) (y2 : Int32) (y3 : Int32) (h : ph_H), EQ pV h0 h → EQ pV h0 (L38 y0 y1 y2 y3 h).2) (hL50 : ∀ (y0 : Int32) (y1 : Int32) (y2 : Int32) (y3 : Int32) (y4 : Int32) (h : ph_H), EQ pV h0 h → EQ pV h0 (L50 y0 y1 y2 y3 y4 h).2) (h : ph_H) (e : EQ pV h0 h) : EQ pV h0 (FX12_race_115 L38 L50 x1 x2 x4 x5 s0 s1 h).2 := (hL50 _ _ _ _ _ _ e)
theorem frV_FX12_race_104 {h0 : ph_H} (L38 : Int32 → Int32 → Int32 → Int32 → ph_H → Int32 × ph_H) (L50 : Int32 → Int32 → Int32 → Int32 → Int32 → ph_H → Int32 × ph_H) (x1 : Int32) (x2 : Int32) (x3 : Int32) (x4 : Int32) (x5 : Int32) (x6 : Int32) (hL38 : ∀ (y0 : Int32) (y1 : Int32) (y2 : Int32) (y3 : Int32) (h : ph_H), EQ pV h0 h → EQ pV h0 (L38 y0 y1 y2 y3 h).2) (hL50 : ∀ (y0 : Int32) (y1 : Int32) (y2 : Int32) (y3 : Int32) (y4 : Int32) (h : ph_H), EQ pV h0 h → EQ pV h0 (L50 y0 y1 y2 y3 y4 h).2) (h : ph_H) (e : EQ pV h0 h) : EQ pV h0 (FX12_race_104 L38 L50 x1 x2 x3 x4 x5 x6 h).2 := (EQ2_if (frV_FX12_race_115 _ _ _ _ _ _ _ _ hL38 hL50 _ e) (frV_FX12_race_115 _ _ _ _ _ _ _ _ hL38 hL50 _ e))
theorem frV_FX12_race_50 {h0 : ph_H} (L38 : Int32 → Int32 → Int32 → Int32 → ph_H → Int32 × ph_H) (hL38 : ∀ (y0 : Int32) (y1 : Int32) (y2 : Int32) (y3 : Int32) (h : ph_H), EQ pV h0 h → EQ pV h0 (L38 y0 y1 y2 y3 h).2) : ∀ (q : Nat) (y0 : Int32) (y1 : Int32) (y2 : Int32) (y3 : Int32) (y4 : Int32) (h : ph_H), EQ pV h0 h → EQ pV h0 (FX12_race_50 L38 q y0 y1 y2 y3 y4 h).2 := by
  intro q
  induction q with
  | zero =>
    intro y0 y1 y2 y3 y4 h e
    exact e
  | succ q ih =>
    intro y0 y1 y2 y3 y4 h e
    exact (EQ2_if (hL38 _ _ _ _ _ e) (EQ2_if (frV_FX12_race_104 _ _ _ _ _ _ _ _ hL38 ih _ e) (EQ2_if (EQ2_if (frV_FX12_race_104 _ _ _ _ _ _ _ _ hL38 ih _ e) (EQ2_if e (EQ2_if e e))) (frV_FX12_race_104 _ _ _ _ _ _ _ _ hL38 ih _ e))))
theorem frV_FX12_race_38 {h0 : ph_H}  : ∀ (q : Nat) (y0 : Int32) (y1 : Int32) (y2 : Int32) (y3 : Int32) (h : ph_H), EQ pV h0 h → EQ pV h0 (FX12_race_38  q y0 y1 y2 y3 h).2 := by
  intro q
  induction q with
  | zero =>
    intro y0 y1 y2 y3 h e
    exact e
  | succ q ih =>
    intro y0 y1 y2 y3 h e
    exact (EQ2_if (EQ2_if e e) (frV_FX12_race_50 _ ih _ _ _ _ _ _ _ e))
theorem frV_FX12_race_33 {h0 : ph_H} (x1 : Int32) (x2 : Int32) (h : ph_H) (e : EQ pV h0 h) : EQ pV h0 (FX12_race_33 x1 x2 h).2 := (frV_FX12_race_38   _ _ _ _ _ _ e)
theorem frV_FX12_race {h0 : ph_H} (a0 : Int32) (a1 : Int32) (h : ph_H) (e : EQ pV h0 h) : EQ pV h0 (FX12_race a0 a1 h).2 := (EQ2_if (EQ_s rfl e) (EQ2_if (EQ_s rfl e) (frV_FX12_race_33 _ _  _ (frV_FX12_findAhead   _ (EQ_s rfl e)))))
theorem frV_FX12_differ_117 {h0 : ph_H} (L50 : Int32 → Int32 → Int32 → Int32 → ph_H → Int32 × ph_H) (x1 : Int32) (x2 : Int32) (x4 : Int32) (s0 : Int32) (s1 : Int32) (hL50 : ∀ (y0 : Int32) (y1 : Int32) (y2 : Int32) (y3 : Int32) (h : ph_H), EQ pV h0 h → EQ pV h0 (L50 y0 y1 y2 y3 h).2) (h : ph_H) (e : EQ pV h0 h) : EQ pV h0 (FX12_differ_117 L50 x1 x2 x4 s0 s1 h).2 := (hL50 _ _ _ _ _ e)
theorem frV_FX12_differ_112 {h0 : ph_H} (L50 : Int32 → Int32 → Int32 → Int32 → ph_H → Int32 × ph_H) (x1 : Int32) (x2 : Int32) (x4 : Int32) (s0 : Int32) (hL50 : ∀ (y0 : Int32) (y1 : Int32) (y2 : Int32) (y3 : Int32) (h : ph_H), EQ pV h0 h → EQ pV h0 (L50 y0 y1 y2 y3 h).2) (h : ph_H) (e : EQ pV h0 h) : EQ pV h0 (FX12_differ_112 L50 x1 x2 x4 s0 h).2 := (frV_FX12_differ_117 _ _ _ _ _ _ hL50 _ e)
theorem frV_FX12_differ_165 {h0 : ph_H} (L128 : Int32 → Int32 → Int32 → Int32 → ph_H → Int32 × ph_H) (x1 : Int32) (x2 : Int32) (x4 : Int32) (s0 : Int32) (s1 : Int32) (hL128 : ∀ (y0 : Int32) (y1 : Int32) (y2 : Int32) (y3 : Int32) (h : ph_H), EQ pV h0 h → EQ pV h0 (L128 y0 y1 y2 y3 h).2) (h : ph_H) (e : EQ pV h0 h) : EQ pV h0 (FX12_differ_165 L128 x1 x2 x4 s0 s1 h).2 := (hL128 _ _ _ _ _ e)
theorem frV_FX12_differ_128 {h0 : ph_H}  : ∀ (q : Nat) (y0 : Int32) (y1 : Int32) (y2 : Int32) (y3 : Int32) (h : ph_H), EQ pV h0 h → EQ pV h0 (FX12_differ_128  q y0 y1 y2 y3 h).2 := by
  intro q
  induction q with
  | zero =>
    intro y0 y1 y2 y3 h e
    exact e
  | succ q ih =>
    intro y0 y1 y2 y3 h e
    exact (EQ2_if e (EQ2_if (frV_FX12_differ_165 _ _ _ _ _ _ ih _ e) (frV_FX12_differ_165 _ _ _ _ _ _ ih _ e)))
theorem frV_FX12_differ_50 {h0 : ph_H}  : ∀ (q : Nat) (y0 : Int32) (y1 : Int32) (y2 : Int32) (y3 : Int32) (h : ph_H), EQ pV h0 h → EQ pV h0 (FX12_differ_50  q y0 y1 y2 y3 h).2 := by
  intro q
  induction q with
  | zero =>
    intro y0 y1 y2 y3 h e
    exact e
  | succ q ih =>
    intro y0 y1 y2 y3 h e
    exact (EQ2_if (frV_FX12_differ_128   _ _ _ _ _ _ e) (EQ2_if (EQ2_if (frV_FX12_differ_117 _ _ _ _ _ _ ih _ e) (frV_FX12_differ_112 _ _ _ _ _ ih _ e)) (frV_FX12_differ_112 _ _ _ _ _ ih _ e)))
theorem frV_FX12_differ {h0 : ph_H} (a0 : Int32) (a1 : Int32) (h : ph_H) (e : EQ pV h0 h) : EQ pV h0 (FX12_differ a0 a1 h).2 := (EQ2_if (EQ_s rfl e) (EQ2_if (EQ_s rfl e) (EQ2_if (EQ_s rfl e) (frV_FX12_differ_50   _ _ _ _ _ _ (EQ_s rfl e)))))
theorem frV_FX12_tryRun_38 {h0 : ph_H} (L12 : Int32 → Int32 → ph_H → Int32 × ph_H) (x1 : Int32) (hL12 : ∀ (y0 : Int32) (y1 : Int32) (h : ph_H), EQ pV h0 h → EQ pV h0 (L12 y0 y1 h).2) (h : ph_H) (e : EQ pV h0 h) : EQ pV h0 (FX12_tryRun_38 L12 x1 h).2 := (EQ2_if (hL12 _ _ _ e) (EQ2_if (EQ2_if e (EQ2_if e (EQ2_if e (EQ2_if e (EQ2_if e (hL12 _ _ _ e)))))) (hL12 _ _ _ e)))
theorem frV_FX12_tryRun_127 {h0 : ph_H} (x1 : Int32) (h : ph_H) (e : EQ pV h0 h) : EQ pV h0 (FX12_tryRun_127 x1 h).2 := (EQ2_if e e)
theorem frV_FX12_tryRun_12 {h0 : ph_H}  : ∀ (q : Nat) (y0 : Int32) (y1 : Int32) (h : ph_H), EQ pV h0 h → EQ pV h0 (FX12_tryRun_12  q y0 y1 h).2 := by
  intro q
  induction q with
  | zero =>
    intro y0 y1 h e
    exact e
  | succ q ih =>
    intro y0 y1 h e
    exact (EQ2_if (frV_FX12_tryRun_127 _  _ e) (EQ2_if (EQ2_if (frV_FX12_tryRun_127 _  _ e) (frV_FX12_tryRun_38 _ _ ih _ (frV_FX12_step _  _ e))) (frV_FX12_tryRun_127 _  _ e)))
theorem frV_FX12_tryRun_4 {h0 : ph_H}  (h : ph_H) (e : EQ pV h0 h) : EQ pV h0 (FX12_tryRun_4 h).2 := (frV_FX12_tryRun_12   _ _ _ _ e)
theorem frV_FX12_tryRun {h0 : ph_H}  (h : ph_H) (e : EQ pV h0 h) : EQ pV h0 (FX12_tryRun h).2 := (frV_FX12_tryRun_4   _ (frV_FX12_begin   _ e))
theorem frV_FX12_isOver_103 {h0 : ph_H}  (h : ph_H) (e : EQ pV h0 h) : EQ pV h0 (FX12_isOver_103 h).2 := e
theorem frV_FX12_isOver_85 {h0 : ph_H}  (h : ph_H) (e : EQ pV h0 h) : EQ pV h0 (FX12_isOver_85 h).2 := (EQ2_if (frV_FX12_isOver_103   _ e) (EQ2_if (frV_FX12_isOver_103   _ e) e))
theorem frV_FX12_isOver_42 {h0 : ph_H}  : ∀ (q : Nat) (y0 : Int32) (h : ph_H), EQ pV h0 h → EQ pV h0 (FX12_isOver_42  q y0 h).2 := by
  intro q
  induction q with
  | zero =>
    intro y0 h e
    exact e
  | succ q ih =>
    intro y0 h e
    exact (EQ2_if (frV_FX12_isOver_85   _ (EQ_s rfl e)) (ih _ _ (EQ_s rfl (EQ_s rfl e))))
theorem frV_FX12_isOver {h0 : ph_H}  (h : ph_H) (e : EQ pV h0 h) : EQ pV h0 (FX12_isOver h).2 := (EQ2_if (frV_FX12_isOver_85   _ (EQ_s rfl e)) (EQ2_if (frV_FX12_isOver_42   _ _ _ (EQ_s rfl (EQ_s rfl (EQ_s rfl e)))) (frV_FX12_isOver_85   _ (EQ_s rfl e))))
theorem frV_FX12_tryLast_57 {h0 : ph_H} (L3 : Int32 → Int32 → Int32 → ph_H → Int32 × ph_H) (L12 : Int32 → Int32 → Int32 → Int32 → ph_H → Int32 × ph_H) (x1 : Int32) (x3 : Int32) (x4 : Int32) (x5 : Int32) (hL3 : ∀ (y0 : Int32) (y1 : Int32) (y2 : Int32) (h : ph_H), EQ pV h0 h → EQ pV h0 (L3 y0 y1 y2 h).2) (hL12 : ∀ (y0 : Int32) (y1 : Int32) (y2 : Int32) (y3 : Int32) (h : ph_H), EQ pV h0 h → EQ pV h0 (L12 y0 y1 y2 y3 h).2) (h : ph_H) (e : EQ pV h0 h) : EQ pV h0 (FX12_tryLast_57 L3 L12 x1 x3 x4 x5 h).2 := (hL12 _ _ _ _ _ e)
theorem frV_FX12_tryLast_52 {h0 : ph_H} (L3 : Int32 → Int32 → Int32 → ph_H → Int32 × ph_H) (L12 : Int32 → Int32 → Int32 → Int32 → ph_H → Int32 × ph_H) (x1 : Int32) (x3 : Int32) (x4 : Int32) (x5 : Int32) (s0 : Int32) (hL3 : ∀ (y0 : Int32) (y1 : Int32) (y2 : Int32) (h : ph_H), EQ pV h0 h → EQ pV h0 (L3 y0 y1 y2 h).2) (hL12 : ∀ (y0 : Int32) (y1 : Int32) (y2 : Int32) (y3 : Int32) (h : ph_H), EQ pV h0 h → EQ pV h0 (L12 y0 y1 y2 y3 h).2) (h : ph_H) (e : EQ pV h0 h) : EQ pV h0 (FX12_tryLast_52 L3 L12 x1 x3 x4 x5 s0 h).2 := (EQ2_if (frV_FX12_tryLast_57 _ _ _ _ _ _ hL3 hL12 _ e) e)
theorem frV_FX12_tryLast_45 {h0 : ph_H} (L3 : Int32 → Int32 → Int32 → ph_H → Int32 × ph_H) (L12 : Int32 → Int32 → Int32 → Int32 → ph_H → Int32 × ph_H) (x1 : Int32) (x3 : Int32) (x4 : Int32) (x5 : Int32) (s0 : Int32) (hL3 : ∀ (y0 : Int32) (y1 : Int32) (y2 : Int32) (h : ph_H), EQ pV h0 h → EQ pV h0 (L3 y0 y1 y2 h).2) (hL12 : ∀ (y0 : Int32) (y1 : Int32) (y2 : Int32) (y3 : Int32) (h : ph_H), EQ pV h0 h → EQ pV h0 (L12 y0 y1 y2 y3 h).2) (h : ph_H) (e : EQ pV h0 h) : EQ pV h0 (FX12_tryLast_45 L3 L12 x1 x3 x4 x5 s0 h).2 := (EQ2_if (frV_FX12_tryLast_57 _ _ _ _ _ _ hL3 hL12 _ e) (frV_FX12_tryLast_52 _ _ _ _ _ _ _ hL3 hL12 _ (frV_FX12_isOver   _ e)))
theorem frV_FX12_tryLast_12 {h0 : ph_H} (L3 : Int32 → Int32 → Int32 → ph_H → Int32 × ph_H) (hL3 : ∀ (y0 : Int32) (y1 : Int32) (y2 : Int32) (h : ph_H), EQ pV h0 h → EQ pV h0 (L3 y0 y1 y2 h).2) : ∀ (q : Nat) (y0 : Int32) (y1 : Int32) (y2 : Int32) (y3 : Int32) (h : ph_H), EQ pV h0 h → EQ pV h0 (FX12_tryLast_12 L3 q y0 y1 y2 y3 h).2 := by
  intro q
  induction q with
  | zero =>
    intro y0 y1 y2 y3 h e
    exact e
  | succ q ih =>
    intro y0 y1 y2 y3 h e
    exact (EQ2_if (hL3 _ _ _ _ e) (frV_FX12_tryLast_45 _ _ _ _ _ _ _ hL3 ih _ (frV_FX12_tryRun   _ (EQ_s rfl (EQ_s rfl (EQ_s rfl e))))))
theorem frV_FX12_tryLast_3 {h0 : ph_H}  : ∀ (q : Nat) (y0 : Int32) (y1 : Int32) (y2 : Int32) (h : ph_H), EQ pV h0 h → EQ pV h0 (FX12_tryLast_3  q y0 y1 y2 h).2 := by
  intro q
  induction q with
  | zero =>
    intro y0 y1 y2 h e
    exact e
  | succ q ih =>
    intro y0 y1 y2 h e
    exact (EQ2_if e (frV_FX12_tryLast_12 _ ih _ _ _ _ _ _ e))
theorem frV_FX12_tryLast {h0 : ph_H} (a0 : Int32) (a1 : Int32) (a2 : Int32) (h : ph_H) (e : EQ pV h0 h) : EQ pV h0 (FX12_tryLast a0 a1 a2 h).2 := (frV_FX12_tryLast_3   _ _ _ _ _ e)
theorem frV_FX12_tryBoth_61 {h0 : ph_H} (L2 : Int32 → Int32 → ph_H → Int32 × ph_H) (L9 : Int32 → Int32 → Int32 → ph_H → Int32 × ph_H) (x1 : Int32) (x2 : Int32) (x3 : Int32) (hL2 : ∀ (y0 : Int32) (y1 : Int32) (h : ph_H), EQ pV h0 h → EQ pV h0 (L2 y0 y1 h).2) (hL9 : ∀ (y0 : Int32) (y1 : Int32) (y2 : Int32) (h : ph_H), EQ pV h0 h → EQ pV h0 (L9 y0 y1 y2 h).2) (h : ph_H) (e : EQ pV h0 h) : EQ pV h0 (FX12_tryBoth_61 L2 L9 x1 x2 x3 h).2 := (hL9 _ _ _ _ e)
theorem frV_FX12_tryBoth_56 {h0 : ph_H} (L2 : Int32 → Int32 → ph_H → Int32 × ph_H) (L9 : Int32 → Int32 → Int32 → ph_H → Int32 × ph_H) (x1 : Int32) (x2 : Int32) (x3 : Int32) (s0 : Int32) (hL2 : ∀ (y0 : Int32) (y1 : Int32) (h : ph_H), EQ pV h0 h → EQ pV h0 (L2 y0 y1 h).2) (hL9 : ∀ (y0 : Int32) (y1 : Int32) (y2 : Int32) (h : ph_H), EQ pV h0 h → EQ pV h0 (L9 y0 y1 y2 h).2) (h : ph_H) (e : EQ pV h0 h) : EQ pV h0 (FX12_tryBoth_56 L2 L9 x1 x2 x3 s0 h).2 := (EQ2_if (frV_FX12_tryBoth_61 _ _ _ _ _ hL2 hL9 _ e) e)
theorem frV_FX12_tryBoth_37 {h0 : ph_H} (L2 : Int32 → Int32 → ph_H → Int32 × ph_H) (L9 : Int32 → Int32 → Int32 → ph_H → Int32 × ph_H) (x1 : Int32) (x2 : Int32) (x3 : Int32) (s0 : Int32) (hL2 : ∀ (y0 : Int32) (y1 : Int32) (h : ph_H), EQ pV h0 h → EQ pV h0 (L2 y0 y1 h).2) (hL9 : ∀ (y0 : Int32) (y1 : Int32) (y2 : Int32) (h : ph_H), EQ pV h0 h → EQ pV h0 (L9 y0 y1 y2 h).2) (h : ph_H) (e : EQ pV h0 h) : EQ pV h0 (FX12_tryBoth_37 L2 L9 x1 x2 x3 s0 h).2 := (EQ2_if (frV_FX12_tryBoth_61 _ _ _ _ _ hL2 hL9 _ e) (frV_FX12_tryBoth_56 _ _ _ _ _ _ hL2 hL9 _ (frV_FX12_tryLast _ _ _  _ e)))
theorem frV_FX12_tryBoth_9 {h0 : ph_H} (L2 : Int32 → Int32 → ph_H → Int32 × ph_H) (hL2 : ∀ (y0 : Int32) (y1 : Int32) (h : ph_H), EQ pV h0 h → EQ pV h0 (L2 y0 y1 h).2) : ∀ (q : Nat) (y0 : Int32) (y1 : Int32) (y2 : Int32) (h : ph_H), EQ pV h0 h → EQ pV h0 (FX12_tryBoth_9 L2 q y0 y1 y2 h).2 := by
  intro q
  induction q with
  | zero =>
    intro y0 y1 y2 h e
    exact e
  | succ q ih =>
    intro y0 y1 y2 h e
    exact (EQ2_if (hL2 _ _ _ e) (frV_FX12_tryBoth_37 _ _ _ _ _ _ hL2 ih _ (frV_FX12_tryRun   _ (EQ_s rfl (EQ_s rfl (EQ_s rfl e))))))
theorem frV_FX12_tryBoth_2 {h0 : ph_H}  : ∀ (q : Nat) (y0 : Int32) (y1 : Int32) (h : ph_H), EQ pV h0 h → EQ pV h0 (FX12_tryBoth_2  q y0 y1 h).2 := by
  intro q
  induction q with
  | zero =>
    intro y0 y1 h e
    exact e
  | succ q ih =>
    intro y0 y1 h e
    exact (EQ2_if e (frV_FX12_tryBoth_9 _ ih _ _ _ _ _ e))
theorem frV_FX12_tryBoth {h0 : ph_H} (a0 : Int32) (h : ph_H) (e : EQ pV h0 h) : EQ pV h0 (FX12_tryBoth a0 h).2 := (frV_FX12_tryBoth_2   _ _ _ _ e)
theorem frV_FX12_find_119 {h0 : ph_H}  (h : ph_H) (e : EQ pV h0 h) : EQ pV h0 (FX12_find_119 h).2 := e
theorem frV_FX12_find_116 {h0 : ph_H} (s0 : Int32) (h : ph_H) (e : EQ pV h0 h) : EQ pV h0 (FX12_find_116 s0 h).2 := (EQ2_if e (frV_FX12_find_119   _ e))
theorem frV_FX12_find_98 {h0 : ph_H} (x1 : Int32) (x4 : Int32) (s0 : Int32) (h : ph_H) (e : EQ pV h0 h) : EQ pV h0 (FX12_find_98 x1 x4 s0 h).2 := (EQ2_if (EQ2_if (frV_FX12_find_119   _ e) (frV_FX12_find_116 _  _ (frV_FX12_tryBoth _  _ e))) (frV_FX12_find_119   _ e))
theorem frV_FX12_find_93 {h0 : ph_H} (x1 : Int32) (x4 : Int32) (h : ph_H) (e : EQ pV h0 h) : EQ pV h0 (FX12_find_93 x1 x4 h).2 := (frV_FX12_find_98 _ _ _  _ e)
theorem frV_FX12_find_90 {h0 : ph_H} (x1 : Int32) (x4 : Int32) (s0 : Int32) (h : ph_H) (e : EQ pV h0 h) : EQ pV h0 (FX12_find_90 x1 x4 s0 h).2 := (EQ2_if (frV_FX12_find_98 _ _ _  _ e) (frV_FX12_find_93 _ _  _ e))
theorem frV_FX12_find_71 {h0 : ph_H} (x1 : Int32) (x4 : Int32) (s0 : Int32) (h : ph_H) (e : EQ pV h0 h) : EQ pV h0 (FX12_find_71 x1 x4 s0 h).2 := (EQ2_if (EQ2_if (frV_FX12_find_93 _ _  _ e) (frV_FX12_find_90 _ _ _  _ (frV_FX12_tryLast _ _ _  _ e))) (frV_FX12_find_93 _ _  _ e))
theorem frV_FX12_find_60 {h0 : ph_H} (x1 : Int32) (s0 : Int32) (h : ph_H) (e : EQ pV h0 h) : EQ pV h0 (FX12_find_60 x1 s0 h).2 := (frV_FX12_find_71 _ _ _  _ (frV_FX12_isOver   _ e))
theorem frV_FX12_find {h0 : ph_H} (a0 : Int32) (a1 : Int32) (h : ph_H) (e : EQ pV h0 h) : EQ pV h0 (FX12_find a0 a1 h).2 := (EQ2_if (EQ_s rfl e) (EQ2_if (EQ_s rfl e) (frV_FX12_find_60 _ _  _ (frV_FX12_tryRun   _ (EQ_s rfl (EQ_s rfl (EQ_s rfl (EQ_s rfl (EQ_s rfl (EQ_s rfl e))))))))))
theorem frV_FX12_found_49 {h0 : ph_H} (x1 : Int32) (h : ph_H) (e : EQ pV h0 h) : EQ pV h0 (FX12_found_49 x1 h).2 := (EQ2_if e e)
theorem frV_FX12_found_75 {h0 : ph_H} (x1 : Int32) (s0 : Int32) (h : ph_H) (e : EQ pV h0 h) : EQ pV h0 (FX12_found_75 x1 s0 h).2 := (EQ2_if (EQ2_if e e) e)
theorem frV_FX12_found {h0 : ph_H} (a0 : Int32) (h : ph_H) (e : EQ pV h0 h) : EQ pV h0 (FX12_found a0 h).2 := (EQ2_if (EQ_s rfl e) (EQ2_if (EQ_s rfl e) (EQ2_if (EQ_s rfl e) (EQ2_if (frV_FX12_found_49 _  _ (EQ_s rfl e)) (EQ2_if (frV_FX12_found_49 _  _ (EQ_s rfl e)) (EQ2_if (frV_FX12_found_75 _ _  _ (EQ_s rfl e)) (frV_FX12_found_75 _ _  _ (EQ_s rfl e))))))))
theorem frV_FX12_keep__246 {h0 : ph_H} (L174 : Int32 → Int32 → Int32 → ph_H → Int32 × ph_H) (x1 : Int32) (x2 : Int32) (x4 : Int32) (s0 : Int32) (s1 : Int32) (hL174 : ∀ (y0 : Int32) (y1 : Int32) (y2 : Int32) (h : ph_H), EQ pV h0 h → EQ pV h0 (L174 y0 y1 y2 h).2) (h : ph_H) (e : EQ pV h0 h) : EQ pV h0 (FX12_keep__246 L174 x1 x2 x4 s0 s1 h).2 := (hL174 _ _ _ _ (EQ_s rfl e))
theorem frV_FX12_keep__174 {h0 : ph_H}  : ∀ (q : Nat) (y0 : Int32) (y1 : Int32) (y2 : Int32) (h : ph_H), EQ pV h0 h → EQ pV h0 (FX12_keep__174  q y0 y1 y2 h).2 := by
  intro q
  induction q with
  | zero =>
    intro y0 y1 y2 h e
    exact e
  | succ q ih =>
    intro y0 y1 y2 h e
    exact (EQ2_if e (EQ2_if (frV_FX12_keep__246 _ _ _ _ _ _ ih _ e) (EQ2_if (frV_FX12_keep__246 _ _ _ _ _ _ ih _ e) (frV_FX12_keep__246 _ _ _ _ _ _ ih _ e))))
theorem frV_FX12_keep__170 {h0 : ph_H} (x1 : Int32) (x2 : Int32) (s0 : Int32) (s1 : Int32) (h : ph_H) (e : EQ pV h0 h) : EQ pV h0 (FX12_keep__170 x1 x2 s0 s1 h).2 := (frV_FX12_keep__174   _ _ _ _ _ (EQ_s rfl e))
theorem frV_FX12_keep__63 {h0 : ph_H} (x1 : Int32) (x2 : Int32) (x3 : Int32) (h : ph_H) (e : EQ pV h0 h) : EQ pV h0 (FX12_keep__63 x1 x2 x3 h).2 := (EQ2_if (EQ_s rfl (EQ_s rfl (EQ_s rfl (EQ_s rfl (EQ_s rfl e))))) (EQ2_if (EQ_s rfl (EQ_s rfl e)) (EQ2_if (frV_FX12_keep__170 _ _ _ _  _ (EQ_s rfl (EQ_s rfl e))) (EQ2_if (frV_FX12_keep__170 _ _ _ _  _ (EQ_s rfl (EQ_s rfl e))) (frV_FX12_keep__170 _ _ _ _  _ (EQ_s rfl (EQ_s rfl e)))))))
theorem frV_FX12_keep__35 {h0 : ph_H} (x1 : Int32) (x2 : Int32) (x3 : Int32) (h : ph_H) (e : EQ pV h0 h) : EQ pV h0 (FX12_keep__35 x1 x2 x3 h).2 := (EQ2_if (EQ2_if e (frV_FX12_keep__63 _ _ _  _ e)) (frV_FX12_keep__63 _ _ _  _ e))
theorem frV_FX12_keep_ {h0 : ph_H} (a0 : Int32) (a1 : Int32) (a2 : Int32) (h : ph_H) (e : EQ pV h0 h) : EQ pV h0 (FX12_keep_ a0 a1 a2 h).2 := (EQ2_if (EQ_s rfl e) (EQ2_if (EQ_s rfl e) (EQ2_if (frV_FX12_keep__35 _ _ _  _ (EQ_s rfl e)) (EQ2_if (EQ_s rfl e) (frV_FX12_keep__35 _ _ _  _ (EQ_s rfl e))))))
theorem frV_FX12_make_58 {h0 : ph_H}  : ∀ (q : Nat) (y0 : Int32) (y1 : Int32) (y2 : Int32) (h : ph_H), EQ pV h0 h → EQ pV h0 (FX12_make_58  q y0 y1 y2 h).2 := by
  intro q
  induction q with
  | zero =>
    intro y0 y1 y2 h e
    exact e
  | succ q ih =>
    intro y0 y1 y2 h e
    exact (EQ2_if e (ih _ _ _ _ (EQ_s rfl e)))
theorem frV_FX12_make {h0 : ph_H} (a0 : Int32) (a1 : Int32) (a2 : Int32) (h : ph_H) (e : EQ pV h0 h) : EQ pV h0 (FX12_make a0 a1 a2 h).2 := (EQ2_if (EQ_s rfl e) (EQ2_if (EQ_s rfl e) (EQ2_if (EQ2_if (frV_FX12_make_58   _ _ _ _ _ (EQ_s rfl (EQ_s rfl (EQ_s rfl e)))) (EQ_s rfl e)) (EQ_s rfl e))))
theorem frV_FX12_element_62 {h0 : ph_H} (x1 : Int32) (x2 : Int32) (x3 : Int32) (s0 : Int32) (h : ph_H) (e : EQ pV h0 h) : EQ pV h0 (FX12_element_62 x1 x2 x3 s0 h).2 := (EQ2_if (EQ_s rfl e) (EQ_s rfl e))
theorem frV_FX12_element_40 {h0 : ph_H} (x1 : Int32) (x2 : Int32) (s0 : Int32) (h : ph_H) (e : EQ pV h0 h) : EQ pV h0 (FX12_element_40 x1 x2 s0 h).2 := (EQ2_if (frV_FX12_element_62 _ _ _ _  _ e) (EQ2_if (frV_FX12_element_62 _ _ _ _  _ e) (frV_FX12_element_62 _ _ _ _  _ e)))
theorem frV_FX12_element_39 {h0 : ph_H} (x1 : Int32) (x2 : Int32) (h : ph_H) (e : EQ pV h0 h) : EQ pV h0 (FX12_element_39 x1 x2 h).2 := (frV_FX12_element_40 _ _ _  _ e)
theorem frV_FX12_element {h0 : ph_H} (a0 : Int32) (a1 : Int32) (h : ph_H) (e : EQ pV h0 h) : EQ pV h0 (FX12_element a0 a1 h).2 := (EQ2_if (frV_FX12_element_39 _ _  _ e) (EQ2_if (frV_FX12_element_39 _ _  _ e) (EQ2_if (frV_FX12_element_39 _ _  _ e) (frV_FX12_element_40 _ _ _  _ e))))
theorem frV_FX12_copy_136 {h0 : ph_H}  : ∀ (q : Nat) (y0 : Int32) (y1 : Int32) (y2 : Int32) (y3 : Int32) (h : ph_H), EQ pV h0 h → EQ pV h0 (FX12_copy_136  q y0 y1 y2 y3 h).2 := by
  intro q
  induction q with
  | zero =>
    intro y0 y1 y2 y3 h e
    exact e
  | succ q ih =>
    intro y0 y1 y2 y3 h e
    exact (EQ2_if e (ih _ _ _ _ _ (EQ_s rfl e)))
theorem frV_FX12_copy_99 {h0 : ph_H}  : ∀ (q : Nat) (y0 : Int32) (y1 : Int32) (y2 : Int32) (y3 : Int32) (y4 : Int32) (y5 : Int32) (h : ph_H), EQ pV h0 h → EQ pV h0 (FX12_copy_99  q y0 y1 y2 y3 y4 y5 h).2 := by
  intro q
  induction q with
  | zero =>
    intro y0 y1 y2 y3 y4 y5 h e
    exact e
  | succ q ih =>
    intro y0 y1 y2 y3 y4 y5 h e
    exact (EQ2_if (frV_FX12_copy_136   _ _ _ _ _ _ e) (ih _ _ _ _ _ _ _ (EQ_s rfl e)))
theorem frV_FX12_copy {h0 : ph_H} (a0 : Int32) (a1 : Int32) (a2 : Int32) (a3 : Int32) (a4 : Int32) (h : ph_H) (e : EQ pV h0 h) : EQ pV h0 (FX12_copy a0 a1 a2 a3 a4 h).2 := (EQ2_if (EQ_s rfl e) (EQ2_if (EQ_s rfl e) (EQ2_if (EQ_s rfl e) (EQ2_if (EQ_s rfl e) (EQ2_if (EQ_s rfl e) (EQ2_if (EQ2_if (EQ_s rfl e) (EQ2_if (EQ_s rfl e) (frV_FX12_copy_99   _ _ _ _ _ _ _ _ (EQ_s rfl e)))) (EQ_s rfl e)))))))
theorem frV_FX12_weight {h0 : ph_H} (a0 : Int32) (h : ph_H) (e : EQ pV h0 h) : EQ pV h0 (FX12_weight a0 h).2 := (EQ2_if (EQ2_if (EQ_s rfl e) (EQ2_if (EQ_s rfl e) (EQ_s rfl e))) (EQ_s rfl e))
theorem frV_FX12_toss {h0 : ph_H} (a0 : Int32) (h : ph_H) (e : EQ pV h0 h) : EQ pV h0 (FX12_toss a0 h).2 := (EQ2_if (EQ2_if (EQ_s rfl e) (EQ_s rfl e)) (EQ_s rfl e))
def pVN (k i : Nat) : Bool := match k with
  | 0 => i == 7 || i == 9
  | 1 => true
  | 2 => true
  | 3 => true
  | 4 => true
  | 5 => true
  | 6 => true
  | 7 => true
  | 8 => true
  | 9 => true
  | _ => false
theorem frVN_FX12_begin_36 {h0 : ph_H} (L2 : Int32 → ph_H → ph_H) (x1 : Int32) (s0 : Int32) (s1 : Int32) (hL2 : ∀ (y0 : Int32) (h : ph_H), EQ pVN h0 h → EQ pVN h0 (L2 y0 h)) (h : ph_H) (e : EQ pVN h0 h) : EQ pVN h0 (FX12_begin_36 L2 x1 s0 s1 h) := (hL2 _ _ (EQ_s rfl e))
theorem frVN_FX12_begin_85 {h0 : ph_H} (L45 : Int32 → ph_H → ph_H) (x1 : Int32) (s0 : Int32) (s1 : Int32) (hL45 : ∀ (y0 : Int32) (h : ph_H), EQ pVN h0 h → EQ pVN h0 (L45 y0 h)) (h : ph_H) (e : EQ pVN h0 h) : EQ pVN h0 (FX12_begin_85 L45 x1 s0 s1 h) := (hL45 _ _ (EQ_s rfl (EQ_s rfl (EQ_s rfl e))))
theorem frVN_FX12_begin_70 {h0 : ph_H} (L45 : Int32 → ph_H → ph_H) (x1 : Int32) (s0 : Int32) (s1 : Int32) (hL45 : ∀ (y0 : Int32) (h : ph_H), EQ pVN h0 h → EQ pVN h0 (L45 y0 h)) (h : ph_H) (e : EQ pVN h0 h) : EQ pVN h0 (FX12_begin_70 L45 x1 s0 s1 h) := (EQ_if (frVN_FX12_begin_85 _ _ _ _ hL45 _ (EQ_s rfl e)) (frVN_FX12_begin_85 _ _ _ _ hL45 _ (EQ_s rfl e)))
theorem frVN_FX12_begin_45 {h0 : ph_H}  : ∀ (q : Nat) (y0 : Int32) (h : ph_H), EQ pVN h0 h → EQ pVN h0 (FX12_begin_45  q y0 h) := by
  intro q
  induction q with
  | zero =>
    intro y0 h e
    exact e
  | succ q ih =>
    intro y0 h e
    exact (EQ_if (EQ_s rfl (EQ_s rfl (EQ_s rfl (EQ_s rfl (EQ_s rfl (EQ_s rfl e)))))) (EQ_if (frVN_FX12_begin_70 _ _ _ _ ih _ e) (frVN_FX12_begin_70 _ _ _ _ ih _ e)))
theorem frVN_FX12_begin_2 {h0 : ph_H}  : ∀ (q : Nat) (y0 : Int32) (h : ph_H), EQ pVN h0 h → EQ pVN h0 (FX12_begin_2  q y0 h) := by
  intro q
  induction q with
  | zero =>
    intro y0 h e
    exact e
  | succ q ih =>
    intro y0 h e
    exact (EQ_if (frVN_FX12_begin_45   _ _ _ e) (EQ_if (frVN_FX12_begin_36 _ _ _ _ ih _ (EQ_s rfl e)) (frVN_FX12_begin_36 _ _ _ _ ih _ (EQ_s rfl e))))
theorem frVN_FX12_begin {h0 : ph_H}  (h : ph_H) (e : EQ pVN h0 h) : EQ pVN h0 (FX12_begin h) := (frVN_FX12_begin_2   _ _ _ e)
theorem frVN_FX12_goTo_19 {h0 : ph_H} (s0 : Int32) (h : ph_H) (e : EQ pVN h0 h) : EQ pVN h0 (FX12_goTo_19 s0 h) := (EQ_s rfl e)
theorem frVN_FX12_goTo {h0 : ph_H} (a0 : Int32) (a1 : Int32) (h : ph_H) (e : EQ pVN h0 h) : EQ pVN h0 (FX12_goTo a0 a1 h) := (EQ_if (frVN_FX12_goTo_19 _  _ e) (EQ_if (EQ_s rfl e) (frVN_FX12_goTo_19 _  _ e)))
theorem frVN_FX12_set {h0 : ph_H} (a0 : Int32) (a1 : Int32) (a2 : Int32) (h : ph_H) (e : EQ pVN h0 h) : EQ pVN h0 (FX12_set a0 a1 a2 h) := (EQ_s rfl (EQ_s rfl e))
theorem frVN_FX12_newThing_29 {h0 : ph_H}  : ∀ (q : Nat) (y0 : Int32) (y1 : Int32) (h : ph_H), EQ pVN h0 h → EQ pVN h0 (FX12_newThing_29  q y0 y1 h).2 := by
  intro q
  induction q with
  | zero =>
    intro y0 y1 h e
    exact e
  | succ q ih =>
    intro y0 y1 h e
    exact (EQ2_if (EQ_s rfl e) (ih _ _ _ (EQ_s rfl e)))
theorem frVN_FX12_newThing {h0 : ph_H} (a0 : Int32) (a1 : Int32) (h : ph_H) (e : EQ pVN h0 h) : EQ pVN h0 (FX12_newThing a0 a1 h).2 := (frVN_FX12_newThing_29   _ _ _ _ (EQ_s rfl (EQ_s rfl (EQ_s rfl e))))
theorem frVN_FX12_work_88 {h0 : ph_H}  (h : ph_H) (e : EQ pVN h0 h) : EQ pVN h0 (FX12_work_88 h) := e
theorem frVN_FX12_work_111 {h0 : ph_H}  (h : ph_H) (e : EQ pVN h0 h) : EQ pVN h0 (FX12_work_111 h) := e
theorem frVN_FX12_work_134 {h0 : ph_H}  (h : ph_H) (e : EQ pVN h0 h) : EQ pVN h0 (FX12_work_134 h) := e
theorem frVN_FX12_work_155 {h0 : ph_H}  (h : ph_H) (e : EQ pVN h0 h) : EQ pVN h0 (FX12_work_155 h) := e
theorem frVN_FX12_work_152 {h0 : ph_H} (s0 : Int32) (s1 : Int32) (s2 : Int32) (h : ph_H) (e : EQ pVN h0 h) : EQ pVN h0 (FX12_work_152 s0 s1 s2 h) := (frVN_FX12_work_155   _ (frVN_FX12_set _ _ _  _ e))
theorem frVN_FX12_work_212 {h0 : ph_H}  (h : ph_H) (e : EQ pVN h0 h) : EQ pVN h0 (FX12_work_212 h) := e
theorem frVN_FX12_work_435 {h0 : ph_H} (L391 : Int32 → Int32 → ph_H → ph_H) (x3 : Int32) (x6 : Int32) (hL391 : ∀ (y0 : Int32) (y1 : Int32) (h : ph_H), EQ pVN h0 h → EQ pVN h0 (L391 y0 y1 h)) (h : ph_H) (e : EQ pVN h0 h) : EQ pVN h0 (FX12_work_435 L391 x3 x6 h) := (hL391 _ _ _ e)
theorem frVN_FX12_work_391 {h0 : ph_H}  : ∀ (q : Nat) (y0 : Int32) (y1 : Int32) (h : ph_H), EQ pVN h0 h → EQ pVN h0 (FX12_work_391  q y0 y1 h) := by
  intro q
  induction q with
  | zero =>
    intro y0 y1 h e
    exact e
  | succ q ih =>
    intro y0 y1 h e
    exact (EQ_if e (EQ_if (frVN_FX12_work_435 _ _ _ ih _ (EQ_s rfl (EQ_s rfl e))) (frVN_FX12_work_435 _ _ _ ih _ e)))
theorem frVN_FX12_work {h0 : ph_H} (a0 : Int32) (a1 : Int32) (a2 : Int32) (a3 : Int32) (a4 : Int32) (h : ph_H) (e : EQ pVN h0 h) : EQ pVN h0 (FX12_work a0 a1 a2 a3 a4 h) := (EQ_if (frVN_FX12_work_88   _ (frVN_FX12_set _ _ _  _ e)) (EQ_if (frVN_FX12_work_111   _ (frVN_FX12_set _ _ _  _ e)) (EQ_if (frVN_FX12_work_134   _ (frVN_FX12_set _ _ _  _ e)) (EQ_if e (EQ_if e (EQ_if (frVN_FX12_work_152 _ _ _  _ (frVN_FX12_newThing _ _  _ e)) (EQ_if (frVN_FX12_work_212   _ (frVN_FX12_set _ _ _  _ (EQ_s rfl e))) (EQ_if (EQ_s rfl (EQ_s rfl e)) (EQ_if e (EQ_if (EQ_s rfl (EQ_s rfl (EQ_s rfl e))) (EQ_if (EQ_s rfl (EQ_s rfl (EQ_s rfl e))) (EQ_if (EQ_s rfl (EQ_s rfl (EQ_s rfl (EQ_s rfl e)))) (EQ_if (frVN_FX12_work_391   _ _ _ _ (EQ_s rfl (EQ_s rfl e))) e)))))))))))))
theorem frVN_FX12_workPlain_116 {h0 : ph_H}  (h : ph_H) (e : EQ pVN h0 h) : EQ pVN h0 (FX12_workPlain_116 h) := e
theorem frVN_FX12_workPlain_153 {h0 : ph_H}  (h : ph_H) (e : EQ pVN h0 h) : EQ pVN h0 (FX12_workPlain_153 h) := e
theorem frVN_FX12_workPlain_191 {h0 : ph_H}  (h : ph_H) (e : EQ pVN h0 h) : EQ pVN h0 (FX12_workPlain_191 h) := e
theorem frVN_FX12_workPlain_222 {h0 : ph_H}  (h : ph_H) (e : EQ pVN h0 h) : EQ pVN h0 (FX12_workPlain_222 h) := e
theorem frVN_FX12_workPlain_219 {h0 : ph_H} (s0 : Int32) (s1 : Int32) (s2 : Int32) (h : ph_H) (e : EQ pVN h0 h) : EQ pVN h0 (FX12_workPlain_219 s0 s1 s2 h) := (frVN_FX12_workPlain_222   _ (frVN_FX12_set _ _ _  _ e))
theorem frVN_FX12_workPlain_206 {h0 : ph_H} (x3 : Int32) (s0 : Int32) (h : ph_H) (e : EQ pVN h0 h) : EQ pVN h0 (FX12_workPlain_206 x3 s0 h) := (frVN_FX12_workPlain_219 _ _ _  _ (frVN_FX12_newThing _ _  _ e))
theorem frVN_FX12_workPlain_259 {h0 : ph_H}  (h : ph_H) (e : EQ pVN h0 h) : EQ pVN h0 (FX12_workPlain_259 h) := (EQ_s rfl e)
theorem frVN_FX12_workPlain_256 {h0 : ph_H} (s0 : Int32) (s1 : Int32) (s2 : Int32) (h : ph_H) (e : EQ pVN h0 h) : EQ pVN h0 (FX12_workPlain_256 s0 s1 s2 h) := (frVN_FX12_workPlain_259   _ (frVN_FX12_set _ _ _  _ e))
theorem frVN_FX12_workPlain {h0 : ph_H} (a0 : Int32) (a1 : Int32) (a2 : Int32) (a3 : Int32) (h : ph_H) (e : EQ pVN h0 h) : EQ pVN h0 (FX12_workPlain a0 a1 a2 a3 h) := (EQ_if (frVN_FX12_workPlain_116   _ (frVN_FX12_set _ _ _  _ e)) (EQ_if (frVN_FX12_workPlain_153   _ (frVN_FX12_set _ _ _  _ (EQ_s rfl e))) (EQ_if (frVN_FX12_workPlain_191   _ (frVN_FX12_set _ _ _  _ (EQ_s rfl e))) (EQ_if e (EQ_if e (EQ_if e (EQ_if e (EQ_if e (EQ_if e (EQ_if e (EQ_if e (EQ_if (EQ_if (frVN_FX12_workPlain_206 _ _  _ e) (frVN_FX12_workPlain_206 _ _  _ e)) (EQ_if e (EQ_if e (EQ_if e (EQ_if e (EQ_if (EQ_if (frVN_FX12_workPlain_256 _ _ _  _ e) (frVN_FX12_workPlain_256 _ _ _  _ e)) (EQ_if (EQ_s rfl (EQ_s rfl (EQ_s rfl e))) e))))))))))))))))))
theorem frVN_FX12_instruct_251 {h0 : ph_H} (s0 : Int32) (s1 : Int32) (h : ph_H) (e : EQ pVN h0 h) : EQ pVN h0 (FX12_instruct_251 s0 s1 h) := (frVN_FX12_goTo _ _  _ e)
theorem frVN_FX12_instruct_204 {h0 : ph_H} (x1 : Int32) (x2 : Int32) (x6 : Int32) (x7 : Int32) (h : ph_H) (e : EQ pVN h0 h) : EQ pVN h0 (FX12_instruct_204 x1 x2 x6 x7 h) := (EQ_if e (EQ_if (frVN_FX12_instruct_251 _ _  _ e) (EQ_if (frVN_FX12_instruct_251 _ _  _ e) (frVN_FX12_instruct_251 _ _  _ e))))
theorem frVN_FX12_instruct_195 {h0 : ph_H} (x1 : Int32) (x2 : Int32) (x3 : Int32) (x4 : Int32) (x6 : Int32) (x7 : Int32) (h : ph_H) (e : EQ pVN h0 h) : EQ pVN h0 (FX12_instruct_195 x1 x2 x3 x4 x6 x7 h) := (frVN_FX12_instruct_204 _ _ _ _  _ (frVN_FX12_workPlain _ _ _ _  _ e))
theorem frVN_FX12_instruct_177 {h0 : ph_H} (x1 : Int32) (x2 : Int32) (x3 : Int32) (x4 : Int32) (x5 : Int32) (x6 : Int32) (s0 : Int32) (h : ph_H) (e : EQ pVN h0 h) : EQ pVN h0 (FX12_instruct_177 x1 x2 x3 x4 x5 x6 s0 h) := (frVN_FX12_instruct_195 _ _ _ _ _ _  _ (frVN_FX12_work _ _ _ _ _  _ e))
theorem frVN_FX12_instruct_149 {h0 : ph_H} (x1 : Int32) (x2 : Int32) (x3 : Int32) (x4 : Int32) (x5 : Int32) (s0 : Int32) (h : ph_H) (e : EQ pVN h0 h) : EQ pVN h0 (FX12_instruct_149 x1 x2 x3 x4 x5 s0 h) := (EQ_if (frVN_FX12_instruct_177 _ _ _ _ _ _ _  _ e) (frVN_FX12_instruct_177 _ _ _ _ _ _ _  _ e))
theorem frVN_FX12_instruct_144 {h0 : ph_H} (x1 : Int32) (x2 : Int32) (x3 : Int32) (x4 : Int32) (x5 : Int32) (h : ph_H) (e : EQ pVN h0 h) : EQ pVN h0 (FX12_instruct_144 x1 x2 x3 x4 x5 h) := (frVN_FX12_instruct_149 _ _ _ _ _ _  _ e)
theorem frVN_FX12_instruct_148 {h0 : ph_H} (x1 : Int32) (x2 : Int32) (x3 : Int32) (x4 : Int32) (x5 : Int32) (h : ph_H) (e : EQ pVN h0 h) : EQ pVN h0 (FX12_instruct_148 x1 x2 x3 x4 x5 h) := (frVN_FX12_instruct_149 _ _ _ _ _ _  _ e)
theorem frVN_FX12_instruct_102 {h0 : ph_H} (x1 : Int32) (x2 : Int32) (x3 : Int32) (x4 : Int32) (x5 : Int32) (s0 : Int32) (h : ph_H) (e : EQ pVN h0 h) : EQ pVN h0 (FX12_instruct_102 x1 x2 x3 x4 x5 s0 h) := (EQ_if (EQ_if (frVN_FX12_instruct_144 _ _ _ _ _  _ (EQ_s rfl e)) (EQ_if (EQ_if (frVN_FX12_instruct_144 _ _ _ _ _  _ (EQ_s rfl e)) (frVN_FX12_instruct_148 _ _ _ _ _  _ (EQ_s rfl e))) (frVN_FX12_instruct_148 _ _ _ _ _  _ (EQ_s rfl e)))) (EQ_s rfl e))
theorem frVN_FX12_instruct_98 {h0 : ph_H} (x1 : Int32) (x2 : Int32) (x3 : Int32) (x4 : Int32) (x5 : Int32) (h : ph_H) (e : EQ pVN h0 h) : EQ pVN h0 (FX12_instruct_98 x1 x2 x3 x4 x5 h) := (frVN_FX12_instruct_102 _ _ _ _ _ _  _ e)
theorem frVN_FX12_instruct {h0 : ph_H} (a0 : Int32) (a1 : Int32) (h : ph_H) (e : EQ pVN h0 h) : EQ pVN h0 (FX12_instruct a0 a1 h) := (EQ_if (EQ_if (frVN_FX12_instruct_98 _ _ _ _ _  _ (EQ_s rfl e)) (frVN_FX12_instruct_102 _ _ _ _ _ _  _ (EQ_s rfl e))) (frVN_FX12_instruct_98 _ _ _ _ _  _ (EQ_s rfl e)))
theorem frVN_FX12_step_154 {h0 : ph_H} (x1 : Int32) (h : ph_H) (e : EQ pVN h0 h) : EQ pVN h0 (FX12_step_154 x1 h) := (EQ_s rfl (EQ_s rfl e))
theorem frVN_FX12_step_110 {h0 : ph_H} (x1 : Int32) (h : ph_H) (e : EQ pVN h0 h) : EQ pVN h0 (FX12_step_110 x1 h) := (frVN_FX12_step_154 _  _ e)
theorem frVN_FX12_step_148 {h0 : ph_H} (x1 : Int32) (x2 : Int32) (h : ph_H) (e : EQ pVN h0 h) : EQ pVN h0 (FX12_step_148 x1 x2 h) := (frVN_FX12_step_154 _  _ (frVN_FX12_instruct _ _  _ e))
theorem frVN_FX12_step {h0 : ph_H} (a0 : Int32) (h : ph_H) (e : EQ pVN h0 h) : EQ pVN h0 (FX12_step a0 h) := (EQ_if (EQ_if (EQ_if (frVN_FX12_step_148 _ _  _ (EQ_s rfl (EQ_s rfl (EQ_s rfl (EQ_s rfl (EQ_s rfl (EQ_s rfl e))))))) (EQ_if (EQ_s rfl (EQ_s rfl (EQ_s rfl (EQ_s rfl (EQ_s rfl (EQ_s rfl (EQ_s rfl e))))))) (frVN_FX12_step_148 _ _  _ (EQ_s rfl (EQ_s rfl (EQ_s rfl (EQ_s rfl (EQ_s rfl (EQ_s rfl e))))))))) (frVN_FX12_step_148 _ _  _ (EQ_s rfl (EQ_s rfl (EQ_s rfl (EQ_s rfl (EQ_s rfl (EQ_s rfl e)))))))) (frVN_FX12_step_110 _  _ (frVN_FX12_goTo _ _  _ (EQ_s rfl (EQ_s rfl (EQ_s rfl (EQ_s rfl (EQ_s rfl (EQ_s rfl (EQ_s rfl (EQ_s rfl (EQ_s rfl (EQ_s rfl e)))))))))))))
theorem frVN_FX12_keep_171 {h0 : ph_H}  : ∀ (q : Nat) (y0 : Int32) (y1 : Int32) (h : ph_H), EQ pVN h0 h → EQ pVN h0 (FX12_keep_171  q y0 y1 h) := by
  intro q
  induction q with
  | zero =>
    intro y0 y1 h e
    exact e
  | succ q ih =>
    intro y0 y1 h e
    exact (EQ_if e (ih _ _ _ (EQ_s rfl e)))
theorem frVN_FX12_keep_104 {h0 : ph_H}  : ∀ (q : Nat) (y0 : Int32) (y1 : Int32) (h : ph_H), EQ pVN h0 h → EQ pVN h0 (FX12_keep_104  q y0 y1 h) := by
  intro q
  induction q with
  | zero =>
    intro y0 y1 h e
    exact e
  | succ q ih =>
    intro y0 y1 h e
    exact (EQ_if (frVN_FX12_keep_171   _ _ _ _ e) (ih _ _ _ (EQ_s rfl (EQ_s rfl (EQ_s rfl e)))))
theorem frVN_FX12_keep_50 {h0 : ph_H}  : ∀ (q : Nat) (y0 : Int32) (y1 : Int32) (h : ph_H), EQ pVN h0 h → EQ pVN h0 (FX12_keep_50  q y0 y1 h) := by
  intro q
  induction q with
  | zero =>
    intro y0 y1 h e
    exact e
  | succ q ih =>
    intro y0 y1 h e
    exact (EQ_if (frVN_FX12_keep_104   _ _ _ _ (EQ_s rfl e)) (ih _ _ _ (EQ_s rfl (EQ_s rfl e))))
theorem frVN_FX12_keep_2 {h0 : ph_H}  : ∀ (q : Nat) (y0 : Int32) (y1 : Int32) (h : ph_H), EQ pVN h0 h → EQ pVN h0 (FX12_keep_2  q y0 y1 h) := by
  intro q
  induction q with
  | zero =>
    intro y0 y1 h e
    exact e
  | succ q ih =>
    intro y0 y1 h e
    exact (EQ_if (frVN_FX12_keep_50   _ _ _ _ e) (ih _ _ _ (EQ_s rfl (EQ_s rfl e))))
theorem frVN_FX12_keep {h0 : ph_H} (a0 : Int32) (h : ph_H) (e : EQ pVN h0 h) : EQ pVN h0 (FX12_keep a0 h) := (frVN_FX12_keep_2   _ _ _ _ e)
theorem frVN_FX12_stepKept_182 {h0 : ph_H} (s0 : Int32) (s1 : Int32) (h : ph_H) (e : EQ pVN h0 h) : EQ pVN h0 (FX12_stepKept_182 s0 s1 h) := (frVN_FX12_keep _  _ (EQ_s rfl (EQ_s rfl e)))
theorem frVN_FX12_stepKept_158 {h0 : ph_H} (s0 : Int32) (s1 : Int32) (h : ph_H) (e : EQ pVN h0 h) : EQ pVN h0 (FX12_stepKept_158 s0 s1 h) := (EQ_if (frVN_FX12_stepKept_182 _ _  _ (EQ_s rfl e)) (frVN_FX12_stepKept_182 _ _  _ (EQ_s rfl e)))
theorem frVN_FX12_stepKept_133 {h0 : ph_H} (s0 : Int32) (s1 : Int32) (h : ph_H) (e : EQ pVN h0 h) : EQ pVN h0 (FX12_stepKept_133 s0 s1 h) := (EQ_if (frVN_FX12_stepKept_158 _ _  _ (EQ_s rfl e)) (frVN_FX12_stepKept_158 _ _  _ (EQ_s rfl e)))
theorem frVN_FX12_stepKept_73 {h0 : ph_H} (x1 : Int32) (h : ph_H) (e : EQ pVN h0 h) : EQ pVN h0 (FX12_stepKept_73 x1 h) := (EQ_if (frVN_FX12_stepKept_133 _ _  _ (EQ_s rfl (EQ_s rfl (EQ_s rfl e)))) (frVN_FX12_stepKept_133 _ _  _ (EQ_s rfl (EQ_s rfl (EQ_s rfl e)))))
theorem frVN_FX12_stepKept_53 {h0 : ph_H} (x1 : Int32) (x3 : Int32) (h : ph_H) (e : EQ pVN h0 h) : EQ pVN h0 (FX12_stepKept_53 x1 x3 h) := (EQ_if (frVN_FX12_stepKept_73 _  _ e) (frVN_FX12_stepKept_73 _  _ (EQ_s rfl e)))
theorem frVN_FX12_stepKept_48 {h0 : ph_H} (x1 : Int32) (x3 : Int32) (h : ph_H) (e : EQ pVN h0 h) : EQ pVN h0 (FX12_stepKept_48 x1 x3 h) := (frVN_FX12_stepKept_53 _ _  _ (frVN_FX12_step _  _ e))
theorem frVN_FX12_stepKept {h0 : ph_H} (a0 : Int32) (h : ph_H) (e : EQ pVN h0 h) : EQ pVN h0 (FX12_stepKept a0 h) := (EQ_if (frVN_FX12_stepKept_48 _ _  _ e) (frVN_FX12_stepKept_48 _ _  _ (EQ_s rfl (EQ_s rfl (EQ_s rfl e)))))
theorem frVN_FX12_run_91 {h0 : ph_H} (L31 : Int32 → ph_H → Int32 × ph_H) (L41 : Int32 → Int32 → ph_H → Int32 × ph_H) (x1 : Int32) (x2 : Int32) (hL31 : ∀ (y0 : Int32) (h : ph_H), EQ pVN h0 h → EQ pVN h0 (L31 y0 h).2) (hL41 : ∀ (y0 : Int32) (y1 : Int32) (h : ph_H), EQ pVN h0 h → EQ pVN h0 (L41 y0 y1 h).2) (h : ph_H) (e : EQ pVN h0 h) : EQ pVN h0 (FX12_run_91 L31 L41 x1 x2 h).2 := (hL41 _ _ _ e)
theorem frVN_FX12_run_97 {h0 : ph_H} (L31 : Int32 → ph_H → Int32 × ph_H) (x1 : Int32) (hL31 : ∀ (y0 : Int32) (h : ph_H), EQ pVN h0 h → EQ pVN h0 (L31 y0 h).2) (h : ph_H) (e : EQ pVN h0 h) : EQ pVN h0 (FX12_run_97 L31 x1 h).2 := (hL31 _ _ e)
theorem frVN_FX12_run_41 {h0 : ph_H} (L31 : Int32 → ph_H → Int32 × ph_H) (hL31 : ∀ (y0 : Int32) (h : ph_H), EQ pVN h0 h → EQ pVN h0 (L31 y0 h).2) : ∀ (q : Nat) (y0 : Int32) (y1 : Int32) (h : ph_H), EQ pVN h0 h → EQ pVN h0 (FX12_run_41 L31 q y0 y1 h).2 := by
  intro q
  induction q with
  | zero =>
    intro y0 y1 h e
    exact e
  | succ q ih =>
    intro y0 y1 h e
    exact (EQ2_if (frVN_FX12_run_97 _ _ hL31 _ e) (EQ2_if (EQ2_if (frVN_FX12_run_97 _ _ hL31 _ e) (EQ2_if (frVN_FX12_run_97 _ _ hL31 _ e) (frVN_FX12_run_91 _ _ _ _ hL31 ih _ (frVN_FX12_stepKept _  _ e)))) (frVN_FX12_run_97 _ _ hL31 _ e)))
theorem frVN_FX12_run_138 {h0 : ph_H} (L112 : Int32 → ph_H → Int32 × ph_H) (hL112 : ∀ (y0 : Int32) (h : ph_H), EQ pVN h0 h → EQ pVN h0 (L112 y0 h).2) (h : ph_H) (e : EQ pVN h0 h) : EQ pVN h0 (FX12_run_138 L112 h).2 := (hL112 _ _ e)
theorem frVN_FX12_run_195 {h0 : ph_H} (s0 : Int32) (h : ph_H) (e : EQ pVN h0 h) : EQ pVN h0 (FX12_run_195 s0 h).2 := (EQ_s rfl (EQ_s rfl (EQ_s rfl e)))
theorem frVN_FX12_run_150 {h0 : ph_H}  (h : ph_H) (e : EQ pVN h0 h) : EQ pVN h0 (FX12_run_150 h).2 := (EQ2_if (frVN_FX12_run_195 _  _ (EQ_s rfl (EQ_s rfl (EQ_s rfl (EQ_s rfl e))))) (frVN_FX12_run_195 _  _ (EQ_s rfl (EQ_s rfl (EQ_s rfl (EQ_s rfl e))))))
theorem frVN_FX12_run_112 {h0 : ph_H}  : ∀ (q : Nat) (y0 : Int32) (h : ph_H), EQ pVN h0 h → EQ pVN h0 (FX12_run_112  q y0 h).2 := by
  intro q
  induction q with
  | zero =>
    intro y0 h e
    exact e
  | succ q ih =>
    intro y0 h e
    exact (EQ2_if (frVN_FX12_run_150   _ e) (EQ2_if (EQ2_if (frVN_FX12_run_150   _ e) (frVN_FX12_run_138 _ ih _ (frVN_FX12_stepKept _  _ e))) (frVN_FX12_run_150   _ e)))
theorem frVN_FX12_run_31 {h0 : ph_H}  : ∀ (q : Nat) (y0 : Int32) (h : ph_H), EQ pVN h0 h → EQ pVN h0 (FX12_run_31  q y0 h).2 := by
  intro q
  induction q with
  | zero =>
    intro y0 h e
    exact e
  | succ q ih =>
    intro y0 h e
    exact (EQ2_if (frVN_FX12_run_112   _ _ _ e) (frVN_FX12_run_41 _ ih _ _ _ _ e))
theorem frVN_FX12_run_29 {h0 : ph_H}  (h : ph_H) (e : EQ pVN h0 h) : EQ pVN h0 (FX12_run_29 h).2 := (frVN_FX12_run_31   _ _ _ e)
theorem frVN_FX12_run_14 {h0 : ph_H}  (h : ph_H) (e : EQ pVN h0 h) : EQ pVN h0 (FX12_run_14 h).2 := (frVN_FX12_run_29   _ (frVN_FX12_keep _  _ (EQ_s rfl (EQ_s rfl e))))
theorem frVN_FX12_run {h0 : ph_H}  (h : ph_H) (e : EQ pVN h0 h) : EQ pVN h0 (FX12_run h).2 := (frVN_FX12_run_14   _ (frVN_FX12_begin   _ (EQ_s rfl (EQ_s rfl e))))
def pVR (k i : Nat) : Bool := match k with
  | 0 => i == 36 || i == 37 || i == 38 || i == 39 || i == 40 || i == 41 || i == 42 || i == 60
  | 20 => true
  | 21 => true
  | 22 => true
  | 23 => true
  | 24 => true
  | 25 => true
  | 26 => true
  | 27 => true
  | 28 => true
  | 29 => true
  | 30 => true
  | 31 => true
  | 32 => true
  | 33 => true
  | 34 => true
  | 35 => true
  | 36 => true
  | 37 => true
  | 38 => true
  | _ => false
theorem frVR_FX12_code {h0 : ph_H} (a0 : Int32) (a1 : Int32) (a2 : Int32) (a3 : Int32) (a4 : Int32) (h : ph_H) (e : EQ pVR h0 h) : EQ pVR h0 (FX12_code a0 a1 a2 a3 a4 h).2 := (EQ2_if (EQ_s rfl e) (EQ2_if (EQ_s rfl e) (EQ2_if (EQ_s rfl e) (EQ_s rfl (EQ_s rfl (EQ_s rfl (EQ_s rfl (EQ_s rfl (EQ_s rfl e)))))))))
theorem frVR_FX12_clear {h0 : ph_H} (a0 : Int32) (h : ph_H) (e : EQ pVR h0 h) : EQ pVR h0 (FX12_clear a0 h).2 := (EQ2_if (EQ_s rfl e) (EQ_s rfl (EQ_s rfl e)))
theorem frVR_FX12_cell {h0 : ph_H} (a0 : Int32) (a1 : Int32) (h : ph_H) (e : EQ pVR h0 h) : EQ pVR h0 (FX12_cell a0 a1 h).2 := (EQ2_if (EQ_s rfl e) (EQ_s rfl (EQ_s rfl e)))
theorem frVR_FX12_input {h0 : ph_H} (a0 : Int32) (h : ph_H) (e : EQ pVR h0 h) : EQ pVR h0 (FX12_input a0 h).2 := (EQ2_if (EQ_s rfl e) (EQ_s rfl (EQ_s rfl (EQ_s rfl e))))
theorem frVR_FX12_turn {h0 : ph_H} (a0 : Int32) (a1 : Int32) (h : ph_H) (e : EQ pVR h0 h) : EQ pVR h0 (FX12_turn a0 a1 h).2 := (EQ2_if (EQ_s rfl e) (EQ2_if (EQ_s rfl e) (EQ2_if (EQ_s rfl e) (EQ_s rfl (EQ_s rfl (EQ_s rfl (EQ_s rfl e)))))))
theorem frVR_FX12_freely {h0 : ph_H}  (h : ph_H) (e : EQ pVR h0 h) : EQ pVR h0 (FX12_freely h).2 := (EQ_s rfl (EQ_s rfl e))
