/-! play -/
theorem QCT_mk {z : zT} {a b : Int} {x : Int32} {h : ph_H} (f : iv a b x) (I : CT z h) : QCT z a b (x, h) := ⟨f, I⟩
theorem CTv {z : zT} {h : ph_H} (I : CT z h) (k i : Nat) : iv (tC k i).1 (tC k i).2 (h k i) := by
  obtain ⟨z', m, j⟩ := I
  exact ICv j k i
theorem S_gb106 {z : zT} {L37 : Int32 → Int32 → Int32 → Int32 → ph_H → Int32 × ph_H} {LP37 : Int32 → Int32 → Int32 → Int32 → ph_H → Prop} {h : ph_H} {x1 x2 x3 x4 : Int32} (C : ∀ (x2 : Int32) (h' : ph_H), CT z h' → iv (-1) 3 x2 → (h' 0 11).toInt = (h 0 11).toInt + 1 → LP37 x1 x2 x3 x4 h' ∧ QCT z (-2147483648) 2147483647 (L37 x1 x2 x3 x4 h')) (I : CT z h) (f2 : iv (-1) 3 x2) (g : iv 0 299 (h 0 11)) : PX11_goByRecordc1_106 LP37 x1 x2 x3 x4 h ∧ QCT z (-2147483648) 2147483647 (FX11_goByRecordc1_106 L37 x1 x2 x3 x4 h) := by
  unfold PX11_goByRecordc1_106 FX11_goByRecordc1_106
  refine sf_if (fun c => ?_) (fun _ => ⟨trivial, QCT_mk (iv_any _) I⟩)
  have f3 : iv 0 3 x2 := iv_ler f2 (iv_lit (lo := 0) (hi := 0) (x := 0) rfl) c rfl
  obtain ⟨z1, m, i⟩ := I
  have s := SX3_go_oc1 (z := z1) x2 h i f3
  refine sf_n s.1 ?_
  have e : (FX3_go_oc1 x2 h).2 0 11 = h 0 11 := (ICz s.2.2 0 11 rfl).trans (ICz i 0 11 rfl).symm
  have g2 : iv 0 299 ((FX3_go_oc1 x2 h).2 0 11) := iv_r e g
  have f9 : iv 0 300 ((FX3_go_oc1 x2 h).2 0 11 + 1) := iv_w (iv_add (lo := 1) (hi := 300) g2 (iv_lit (lo := 1) (hi := 1) (x := 1) rfl) rfl) rfl
  have I1 : CT z (FX3_go_oc1 x2 h).2 := ⟨z1, m, s.2.2⟩
  have I2 : CT z (hs (FX3_go_oc1 x2 h).2 0 11 ((FX3_go_oc1 x2 h).2 0 11 + 1)) := ⟨_, zmC_o m rfl rfl, ICg (k := 0) (i := 11) s.2.2 f9 rfl⟩
  unfold PX11_goByRecordc1_120 FX11_goByRecordc1_120
  refine sf_if (fun _ => ⟨trivial, QCT_mk (iv_any _) I1⟩) (fun _ => sf_if (fun _ => ⟨trivial, QCT_mk (iv_any _) I1⟩) (fun _ => sf_if (fun _ => C x2 _ I2 f2 ?_) (fun _ => ⟨trivial, QCT_mk (iv_any _) I2⟩)))
  rw [hz_e, ti_inc g2 rfl, e]
theorem S_gb88 {z : zT} {L37 : Int32 → Int32 → Int32 → Int32 → ph_H → Int32 × ph_H} {LP37 : Int32 → Int32 → Int32 → Int32 → ph_H → Prop} {h : ph_H} {x1 x2 x3 x4 : Int32} (C : ∀ (x2 : Int32) (h' : ph_H), CT z h' → iv (-1) 3 x2 → (h' 0 11).toInt = (h 0 11).toInt + 1 → LP37 x1 x2 x3 x4 h' ∧ QCT z (-2147483648) 2147483647 (L37 x1 x2 x3 x4 h')) (I : CT z h) (f2 : iv (-1) 3 x2) (g : iv 0 299 (h 0 11)) : PX11_goByRecordc1_88 LP37 x1 x2 x3 x4 h ∧ QCT z (-2147483648) 2147483647 (FX11_goByRecordc1_88 L37 x1 x2 x3 x4 h) := by
  unfold PX11_goByRecordc1_88 FX11_goByRecordc1_88
  refine sf_if (fun _ => S_gb106 C I f2 g) (fun _ => ?_)
  have I0 := I
  obtain ⟨z1, m, i⟩ := I0
  have w := SX3_whoGoes_oc1 (z := z1) x2 h i
  exact sf_n w.1 (S_gb106 C I w.2 g)
theorem S_gb37 {z : zT} : ∀ (q : Nat) (x1 x2 x3 x4 : Int32) (h : ph_H), CT z h → iv (-1) 3 x2 → iv 0 300 x3 → 300 - (h 0 11).toInt < (q : Int) → PX11_goByRecordc1_37 q x1 x2 x3 x4 h ∧ QCT z (-2147483648) 2147483647 (FX11_goByRecordc1_37 q x1 x2 x3 x4 h) := by
  intro q
  induction q with
  | zero =>
    intro x1 x2 x3 x4 h I f2 f3 mq
    have g : iv 0 300 (h 0 11) := CTv I 0 11
    unfold iv at g
    exfalso
    omega
  | succ q ih =>
    intro x1 x2 x3 x4 h I f2 f3 mq
    unfold PX11_goByRecordc1_37 FX11_goByRecordc1_37
    have g : iv 0 300 (h 0 11) := CTv I 0 11
    have I0 := I
    obtain ⟨z1, m, i⟩ := I0
    refine sf_if (fun _ => ?_) (fun c => ?_)
    · have w := SX3_whoGoes_oc1 (z := z1) 0 h i
      exact sf_n w.1 (sf_if (fun _ => ⟨trivial, QCT_mk (iv_any _) I⟩) (fun _ => ⟨trivial, QCT_mk (iv_any _) I⟩))
    · have g2 : iv 0 299 (h 0 11) := iv_lt g c rfl
      have C : ∀ y3 : Int32, iv 0 300 y3 → ∀ (x2 : Int32) (h' : ph_H), CT z h' → iv (-1) 3 x2 → (h' 0 11).toInt = (h 0 11).toInt + 1 → PX11_goByRecordc1_37 q x1 x2 y3 x4 h' ∧ QCT z (-2147483648) 2147483647 (FX11_goByRecordc1_37 q x1 x2 y3 x4 h') := fun y3 f y2 h' I' f' e => ih x1 y2 y3 x4 h' I' f' f (by omega)
      refine sf_if (fun _ => S_gb88 (C x3 f3) I f2 g2) (fun _ => sf_if (fun _ => S_gb88 (C x3 f3) I f2 g2) (fun c3 => ?_))
      have f4 : iv 0 299 x3 := iv_lt f3 c3 rfl
      have g46 : iv 0 3 (h 46 (x3.toNatClampNeg)) := CTv I 46 _
      have f5 : iv 0 300 (x3 + 1) := iv_w (iv_add (lo := 1) (hi := 300) f4 (iv_lit (lo := 1) (hi := 1) (x := 1) rfl) rfl) rfl
      exact sf_n (iv_in f4 rfl) (sf_if (fun _ => sf_n (iv_in f4 rfl) (S_gb88 (C (x3 + 1) f5) I (iv_w g46 rfl) g2)) (fun _ => S_gb88 (C x3 f3) I f2 g2))
theorem SX11_goByRecordc1_T {z : zT} (a0 : Int32) (h : ph_H) (I : CT z h) : PX11_goByRecordc1 a0 h ∧ QCT z (-2147483648) 2147483647 (FX11_goByRecordc1 a0 h) := by
  have T : ∀ v : Int32, PX11_goByRecordc1_30 a0 0 0 v h ∧ QCT z (-2147483648) 2147483647 (FX11_goByRecordc1_30 a0 0 0 v h) := fun v => by
    unfold PX11_goByRecordc1_30 FX11_goByRecordc1_30
    obtain ⟨z1, m, i⟩ := I
    have h0 : (0 : Int32).toInt = 0 := by decide
    refine S_gb37 2000 a0 0 0 v _ ⟨_, zmC_o m rfl rfl, ICg (k := 0) (i := 11) i (show iv 0 300 0 from ⟨by decide, by decide⟩) rfl⟩ ⟨by decide, by decide⟩ ⟨by decide, by decide⟩ ?_
    rw [hz_e, h0]
    decide
  unfold PX11_goByRecordc1 FX11_goByRecordc1
  refine sf_if (fun _ => T _) (fun c1 => sf_if (fun _ => T _) (fun c2 => sf_n ?_ (T _)))
  have f0 : iv 1 300 a0 := by
    have h0 : (0 : Int32).toInt = 0 := by decide
    have h3 : (300 : Int32).toInt = 300 := by decide
    rw [Int32.le_iff_toInt_le, h0] at c1
    rw [Int32.lt_iff_toInt_lt, h3] at c2
    unfold iv
    omega
  exact iv_in (iv_sub (lo := 0) (hi := 299) f0 (iv_lit (lo := 1) (hi := 1) (x := 1) rfl) rfl) rfl
theorem SX11_play_T {z : zT} (a0 a1 : Int32) (h : ph_H) (I : CT z h) : PX11_play a0 a1 h ∧ QCT z (-2147483648) 2147483647 (FX11_play a0 a1 h) := by
  have N : ∀ v : Int32, True ∧ QCT z (-2147483648) 2147483647 (v, h) := fun v => ⟨trivial, QCT_mk (iv_any _) I⟩
  unfold PX11_play FX11_play
  refine sf_if (fun _ => N _) (fun _ => sf_if (fun _ => N _) (fun _ => sf_if (fun _ => N _) (fun _ => sf_if (fun _ => N _) (fun _ => sf_if (fun _ => ?_) (fun _ => N _)))))
  obtain ⟨z1, m, i⟩ := I
  have b := SX3_begin_on (z := z1) a1 h i
  refine sf_n b.1 ?_
  have s := SX11_goByRecordc1_T (z := z) a0 _ ⟨z1, m, b.2⟩
  obtain ⟨z2, m2, i2⟩ := s.2.2
  unfold PX11_play_54 FX11_play_54
  exact sf_n s.1 ⟨trivial, QCT_mk (iv_any _) ⟨z2, m2, ICa 0 12 i2 rfl rfl⟩⟩
