/-! a run begins: kinds 0, numbers 0, the first of them as told -/
theorem IC_kn_s {z : zT} {h h' : ph_H} (I : IC z h) (n : ∀ k i, ¬ k = 16 → ¬ k = 17 → h' k i = h k i) (fk : ∀ i, iv 0 3 (h' 16 i)) (kv : ∀ i, h' 16 i = 0 ∨ iv 0 11 (h' 17 i)) : IC z h' := by
  refine ⟨fun k i => ?_, ⟨kv, fun j => by rw [n _ _ (by decide) (by decide), n _ _ (by decide) (by decide)]; exact I.2.1.2.1 j, ?_, fun j => ?_⟩, fun k i e => ?_⟩
  · by_cases a : k = 16
    · subst a
      exact fk i
    · by_cases b : k = 17
      · subst b
        exact iv_any _
      · rw [n k i a b]
        exact I.1 k i
  · unfold MSm
    rw [n _ _ (by decide) (by decide), n _ _ (by decide) (by decide)]
    exact I.2.1.2.2.1
  · rw [n _ _ (by decide) (by decide), n _ _ (by decide) (by decide)]
    exact I.2.1.2.2.2 j
  · rw [n k i (fun a => by subst a; exact absurd (show false = true from e) (by decide)) (fun a => by subst a; exact absurd (show false = true from e) (by decide))]
    exact I.2.2 k i e
theorem ICk0_s {z : zT} {h : ph_H} (I : IC z h) (i : Nat) : IC z (hs h 16 i 0) := by
  refine IC_kn_s I (fun k j a _ => hs_o (fun c => a c.1)) (fun j => ?_) (fun j => ?_)
  · by_cases e : j = i
    · subst e
      rw [hz_e]
      exact ⟨by decide, by decide⟩
    · rw [hs_o (fun c => e c.2)]
      exact I.1 16 j
  · by_cases e : j = i
    · subst e
      exact Or.inl hz_e
    · rw [hs_o (fun c => e c.2), hs_o (fun c => absurd c.1 (by decide))]
      exact I.2.1.1 j
theorem ICn_s {z : zT} {h : ph_H} (I : IC z h) (i : Nat) {v : Int32} (f : iv 0 11 v) : IC z (hs h 17 i v) := by
  refine IC_kn_s I (fun k j _ a => hs_o (fun c => a c.1)) (fun j => ?_) (fun j => ?_)
  · rw [hs_o (fun c => absurd c.1 (by decide))]
    exact I.1 16 j
  · by_cases e : j = i
    · subst e
      rw [hz_e]
      exact Or.inr f
    · rw [hs_o (fun c => absurd c.1 (by decide)), hs_o (fun c => e c.2)]
      exact I.2.1.1 j
theorem ICc_s {z : zT} {h : ph_H} (I : IC z h) (k0 : Nat) (c : ∀ i, i < 28 → h 16 i = 0) : IC z (hc h k0 17 0 0 12) := by
  refine IC_kn_s I (fun k j _ a => hc_o a) (fun j => ?_) (fun j => ?_)
  · rw [hc_o (by decide)]
    exact I.1 16 j
  · rw [hc_o (by decide)]
    by_cases e : j < 28
    · exact Or.inl (c j e)
    · have w : hc h k0 17 0 0 12 17 j = h 17 j := by
        unfold hc
        rw [va_up_self]
        unfold va_cpy
        have d : (12 : Int32).toNatClampNeg = 12 := by decide
        have d0 : (0 : Int32).toNatClampNeg = 0 := by decide
        rw [d, d0, if_neg (by omega)]
      rw [w]
      exact I.2.1.1 j
theorem S_fillK_s {z : zT} : ∀ (q : Nat) (x2 : Int32) (h : ph_H), IC z h → iv 0 28 x2 → 28 - x2.toInt < (q : Int) → (∀ i, i < x2.toNatClampNeg → h 16 i = 0) → PJ7_fill_53178_k16_5 q 0 x2 28 h ∧ (IC z (FJ7_fill_53178_k16_5 q 0 x2 28 h) ∧ ∀ i, i < 28 → FJ7_fill_53178_k16_5 q 0 x2 28 h 16 i = 0) := by
  intro q
  induction q with
  | zero =>
    intro x2 h I f mq c
    exact mu_zu f mq rfl
  | succ q ih =>
    intro x2 h I f mq c
    unfold PJ7_fill_53178_k16_5 FJ7_fill_53178_k16_5
    have h28 : (28 : Int32).toInt = 28 := by decide
    refine sf_if (Q := fun o => IC z o ∧ ∀ i, i < 28 → o 16 i = 0) (fun e => ⟨trivial, I, fun i hi => c i ?_⟩) (fun e => ?_)
    · rw [Int32.le_iff_toInt_le, h28] at e
      have t : x2.toNatClampNeg = x2.toInt.toNat := rfl
      omega
    · have f2 : iv 0 27 x2 := iv_lt f e rfl
      refine sf_n (iv_in f2 rfl) (ih (x2 + 1) _ (ICk0_s I _) (iv_w (iv_add (lo := 1) (hi := 28) f2 (iv_lit (lo := 1) (hi := 1) (x := 1) rfl) rfl) rfl) (mu_up f2 mq rfl) (fun i hi => ?_))
      have t : (x2 + 1).toNatClampNeg = (x2 + 1).toInt.toNat := rfl
      have t2 : x2.toNatClampNeg = x2.toInt.toNat := rfl
      rw [t, ti_inc f2 rfl] at hi
      unfold iv at f2
      by_cases w : i = x2.toNatClampNeg
      · subst w
        exact hz_e
      · rw [hs_o (fun z => w z.2)]
        exact c i (by omega)
theorem S_fillN_s {z : zT} : ∀ (q : Nat) (x2 : Int32) (h : ph_H), IC z h → iv 0 28 x2 → 28 - x2.toInt < (q : Int) → (∀ i, i < 28 → h 16 i = 0) → PJ7_fill_53178_k17_5 q 0 x2 28 h ∧ (IC z (FJ7_fill_53178_k17_5 q 0 x2 28 h) ∧ ∀ i, i < 28 → FJ7_fill_53178_k17_5 q 0 x2 28 h 16 i = 0) := by
  intro q
  induction q with
  | zero =>
    intro x2 h I f mq c
    exact mu_zu f mq rfl
  | succ q ih =>
    intro x2 h I f mq c
    unfold PJ7_fill_53178_k17_5 FJ7_fill_53178_k17_5
    refine sf_if (Q := fun o => IC z o ∧ ∀ i, i < 28 → o 16 i = 0) (fun e => ⟨trivial, I, c⟩) (fun e => ?_)
    have f2 : iv 0 27 x2 := iv_lt f e rfl
    exact sf_n (iv_in f2 rfl) (ih (x2 + 1) _ (ICn_s I _ ⟨by decide, by decide⟩) (iv_w (iv_add (lo := 1) (hi := 28) f2 (iv_lit (lo := 1) (hi := 1) (x := 1) rfl) rfl) rfl) (mu_up f2 mq rfl) (fun i hi => (hz_k rfl).trans (c i hi)))
theorem IC_kn_o {z : zT} {h h' : ph_H} (I : IC z h) (n : ∀ k i, ¬ k = 26 → ¬ k = 27 → h' k i = h k i) (fk : ∀ i, iv 0 3 (h' 26 i)) (kv : ∀ i, h' 26 i = 0 ∨ iv 0 11 (h' 27 i)) : IC z h' := by
  refine ⟨fun k i => ?_, ⟨fun j => by rw [n _ _ (by decide) (by decide), n _ _ (by decide) (by decide)]; exact I.2.1.1 j, kv, ?_, fun j => ?_⟩, fun k i e => ?_⟩
  · by_cases a : k = 26
    · subst a
      exact fk i
    · by_cases b : k = 27
      · subst b
        exact iv_any _
      · rw [n k i a b]
        exact I.1 k i
  · unfold MSm
    rw [n _ _ (by decide) (by decide), n _ _ (by decide) (by decide)]
    exact I.2.1.2.2.1
  · rw [n _ _ (by decide) (by decide), n _ _ (by decide) (by decide)]
    exact I.2.1.2.2.2 j
  · rw [n k i (fun a => by subst a; exact absurd (show false = true from e) (by decide)) (fun a => by subst a; exact absurd (show false = true from e) (by decide))]
    exact I.2.2 k i e
theorem ICk0_o {z : zT} {h : ph_H} (I : IC z h) (i : Nat) : IC z (hs h 26 i 0) := by
  refine IC_kn_o I (fun k j a _ => hs_o (fun c => a c.1)) (fun j => ?_) (fun j => ?_)
  · by_cases e : j = i
    · subst e
      rw [hz_e]
      exact ⟨by decide, by decide⟩
    · rw [hs_o (fun c => e c.2)]
      exact I.1 26 j
  · by_cases e : j = i
    · subst e
      exact Or.inl hz_e
    · rw [hs_o (fun c => e c.2), hs_o (fun c => absurd c.1 (by decide))]
      exact I.2.1.2.1 j
theorem ICn_o {z : zT} {h : ph_H} (I : IC z h) (i : Nat) {v : Int32} (f : iv 0 11 v) : IC z (hs h 27 i v) := by
  refine IC_kn_o I (fun k j _ a => hs_o (fun c => a c.1)) (fun j => ?_) (fun j => ?_)
  · rw [hs_o (fun c => absurd c.1 (by decide))]
    exact I.1 26 j
  · by_cases e : j = i
    · subst e
      rw [hz_e]
      exact Or.inr f
    · rw [hs_o (fun c => absurd c.1 (by decide)), hs_o (fun c => e c.2)]
      exact I.2.1.2.1 j
theorem ICc_o {z : zT} {h : ph_H} (I : IC z h) (k0 : Nat) (c : ∀ i, i < 28 → h 26 i = 0) : IC z (hc h k0 27 0 0 12) := by
  refine IC_kn_o I (fun k j _ a => hc_o a) (fun j => ?_) (fun j => ?_)
  · rw [hc_o (by decide)]
    exact I.1 26 j
  · rw [hc_o (by decide)]
    by_cases e : j < 28
    · exact Or.inl (c j e)
    · have w : hc h k0 27 0 0 12 27 j = h 27 j := by
        unfold hc
        rw [va_up_self]
        unfold va_cpy
        have d : (12 : Int32).toNatClampNeg = 12 := by decide
        have d0 : (0 : Int32).toNatClampNeg = 0 := by decide
        rw [d, d0, if_neg (by omega)]
      rw [w]
      exact I.2.1.2.1 j
theorem S_fillK_o {z : zT} : ∀ (q : Nat) (x2 : Int32) (h : ph_H), IC z h → iv 0 28 x2 → 28 - x2.toInt < (q : Int) → (∀ i, i < x2.toNatClampNeg → h 26 i = 0) → PJ7_fill_53178_k26_5 q 0 x2 28 h ∧ (IC z (FJ7_fill_53178_k26_5 q 0 x2 28 h) ∧ ∀ i, i < 28 → FJ7_fill_53178_k26_5 q 0 x2 28 h 26 i = 0) := by
  intro q
  induction q with
  | zero =>
    intro x2 h I f mq c
    exact mu_zu f mq rfl
  | succ q ih =>
    intro x2 h I f mq c
    unfold PJ7_fill_53178_k26_5 FJ7_fill_53178_k26_5
    have h28 : (28 : Int32).toInt = 28 := by decide
    refine sf_if (Q := fun o => IC z o ∧ ∀ i, i < 28 → o 26 i = 0) (fun e => ⟨trivial, I, fun i hi => c i ?_⟩) (fun e => ?_)
    · rw [Int32.le_iff_toInt_le, h28] at e
      have t : x2.toNatClampNeg = x2.toInt.toNat := rfl
      omega
    · have f2 : iv 0 27 x2 := iv_lt f e rfl
      refine sf_n (iv_in f2 rfl) (ih (x2 + 1) _ (ICk0_o I _) (iv_w (iv_add (lo := 1) (hi := 28) f2 (iv_lit (lo := 1) (hi := 1) (x := 1) rfl) rfl) rfl) (mu_up f2 mq rfl) (fun i hi => ?_))
      have t : (x2 + 1).toNatClampNeg = (x2 + 1).toInt.toNat := rfl
      have t2 : x2.toNatClampNeg = x2.toInt.toNat := rfl
      rw [t, ti_inc f2 rfl] at hi
      unfold iv at f2
      by_cases w : i = x2.toNatClampNeg
      · subst w
        exact hz_e
      · rw [hs_o (fun z => w z.2)]
        exact c i (by omega)
theorem S_fillN_o {z : zT} : ∀ (q : Nat) (x2 : Int32) (h : ph_H), IC z h → iv 0 28 x2 → 28 - x2.toInt < (q : Int) → (∀ i, i < 28 → h 26 i = 0) → PJ7_fill_53178_k27_5 q 0 x2 28 h ∧ (IC z (FJ7_fill_53178_k27_5 q 0 x2 28 h) ∧ ∀ i, i < 28 → FJ7_fill_53178_k27_5 q 0 x2 28 h 26 i = 0) := by
  intro q
  induction q with
  | zero =>
    intro x2 h I f mq c
    exact mu_zu f mq rfl
  | succ q ih =>
    intro x2 h I f mq c
    unfold PJ7_fill_53178_k27_5 FJ7_fill_53178_k27_5
    refine sf_if (Q := fun o => IC z o ∧ ∀ i, i < 28 → o 26 i = 0) (fun e => ⟨trivial, I, c⟩) (fun e => ?_)
    have f2 : iv 0 27 x2 := iv_lt f e rfl
    exact sf_n (iv_in f2 rfl) (ih (x2 + 1) _ (ICn_o I _ ⟨by decide, by decide⟩) (iv_w (iv_add (lo := 1) (hi := 28) f2 (iv_lit (lo := 1) (hi := 1) (x := 1) rfl) rfl) rfl) (mu_up f2 mq rfl) (fun i hi => (hz_k rfl).trans (c i hi)))
theorem SX3_begin_st {z : zT} (a1 : Int32) (h : ph_H) (I : IC z h) : PX3_begin_st a1 h ∧ IC z (FX3_begin_st a1 h) := by
  unfold PX3_begin_st FX3_begin_st
  have s1 := S_fillK_s 2000 0 h I ⟨by decide, by decide⟩ (by decide) (fun i hi => absurd hi (Nat.not_lt_zero i))
  refine sf_n (show PJ7_fill_53178_k16 0 h from s1.1) ?_
  unfold PX3_begin_st_13 FX3_begin_st_13
  have s2 := S_fillN_s 2000 0 _ s1.2.1 ⟨by decide, by decide⟩ (by decide) s1.2.2
  refine sf_n (show PJ7_fill_53178_k17 0 _ from s2.1) ?_
  unfold PX3_begin_st_21 FX3_begin_st_21
  have I3 := ICc_s s2.2.1 11 s2.2.2
  refine sf_n (cpok_iv (iv_lit (lo := 0) (hi := 0) (x := 0) rfl) (iv_lit (lo := 0) (hi := 0) (x := 0) rfl) (iv_lit (lo := 12) (hi := 12) (x := 12) rfl) rfl) ?_
  have s4 := SJ7_fill_53178_k18 (z := z) 0 _ I3
  refine sf_n s4.1 ?_
  unfold PX3_begin_st_44 FX3_begin_st_44
  have s5 := SJ7_fill_53178_k19 (z := z) 0 _ s4.2
  refine sf_n s5.1 ?_
  unfold PX3_begin_st_52 FX3_begin_st_52
  exact sf_n (iv_in (iv_lit (lo := 0) (hi := 0) (x := 0) rfl) rfl) ⟨trivial, ICs (k := 15) (i := 12) (ICa 15 11 (ICs (k := 15) (i := 10) (ICa 19 _ s5.2 rfl rfl) (show iv 0 12 0 from ⟨by decide, by decide⟩) rfl) rfl rfl) (show iv 0 30 0 from ⟨by decide, by decide⟩) rfl⟩
theorem SX3_begin_on {z : zT} (a1 : Int32) (h : ph_H) (I : IC z h) : PX3_begin_on a1 h ∧ IC z (FX3_begin_on a1 h) := by
  unfold PX3_begin_on FX3_begin_on
  have s1 := S_fillK_o 2000 0 h I ⟨by decide, by decide⟩ (by decide) (fun i hi => absurd hi (Nat.not_lt_zero i))
  refine sf_n (show PJ7_fill_53178_k26 0 h from s1.1) ?_
  unfold PX3_begin_on_13 FX3_begin_on_13
  have s2 := S_fillN_o 2000 0 _ s1.2.1 ⟨by decide, by decide⟩ (by decide) s1.2.2
  refine sf_n (show PJ7_fill_53178_k27 0 _ from s2.1) ?_
  unfold PX3_begin_on_21 FX3_begin_on_21
  have I3 := ICc_o s2.2.1 4 s2.2.2
  refine sf_n (cpok_iv (iv_lit (lo := 0) (hi := 0) (x := 0) rfl) (iv_lit (lo := 0) (hi := 0) (x := 0) rfl) (iv_lit (lo := 12) (hi := 12) (x := 12) rfl) rfl) ?_
  have s4 := SJ7_fill_53178_k28 (z := z) 0 _ I3
  refine sf_n s4.1 ?_
  unfold PX3_begin_on_44 FX3_begin_on_44
  have s5 := SJ7_fill_53178_k29 (z := z) 0 _ s4.2
  refine sf_n s5.1 ?_
  unfold PX3_begin_on_52 FX3_begin_on_52
  exact sf_n (iv_in (iv_lit (lo := 0) (hi := 0) (x := 0) rfl) rfl) ⟨trivial, ICs (k := 25) (i := 12) (ICa 25 11 (ICs (k := 25) (i := 10) (ICa 29 _ s5.2 rfl rfl) (show iv 0 12 0 from ⟨by decide, by decide⟩) rfl) rfl rfl) (show iv 0 30 0 from ⟨by decide, by decide⟩) rfl⟩
theorem SX3_begin_ot {z : zT} (a1 : Int32) (h : ph_H) (I : IC z h) : PX3_begin_ot a1 h ∧ IC z (FX3_begin_ot a1 h) := by
  unfold PX3_begin_ot FX3_begin_ot
  have s1 := S_fillK_o 2000 0 h I ⟨by decide, by decide⟩ (by decide) (fun i hi => absurd hi (Nat.not_lt_zero i))
  refine sf_n (show PJ7_fill_53178_k26 0 h from s1.1) ?_
  unfold PX3_begin_ot_13 FX3_begin_ot_13
  have s2 := S_fillN_o 2000 0 _ s1.2.1 ⟨by decide, by decide⟩ (by decide) s1.2.2
  refine sf_n (show PJ7_fill_53178_k27 0 _ from s2.1) ?_
  unfold PX3_begin_ot_21 FX3_begin_ot_21
  have I3 := ICc_o s2.2.1 11 s2.2.2
  refine sf_n (cpok_iv (iv_lit (lo := 0) (hi := 0) (x := 0) rfl) (iv_lit (lo := 0) (hi := 0) (x := 0) rfl) (iv_lit (lo := 12) (hi := 12) (x := 12) rfl) rfl) ?_
  have s4 := SJ7_fill_53178_k28 (z := z) 0 _ I3
  refine sf_n s4.1 ?_
  unfold PX3_begin_ot_44 FX3_begin_ot_44
  have s5 := SJ7_fill_53178_k29 (z := z) 0 _ s4.2
  refine sf_n s5.1 ?_
  unfold PX3_begin_ot_52 FX3_begin_ot_52
  exact sf_n (iv_in (iv_lit (lo := 0) (hi := 0) (x := 0) rfl) rfl) ⟨trivial, ICs (k := 25) (i := 12) (ICa 25 11 (ICs (k := 25) (i := 10) (ICa 29 _ s5.2 rfl rfl) (show iv 0 12 0 from ⟨by decide, by decide⟩) rfl) rfl rfl) (show iv 0 30 0 from ⟨by decide, by decide⟩) rfl⟩
theorem SX3_begin_onc1 {z : zT} (a1 : Int32) (h : ph_H) (I : IC z h) : PX3_begin_onc1 a1 h ∧ IC z (FX3_begin_onc1 a1 h) := by
  unfold PX3_begin_onc1 FX3_begin_onc1
  have s1 := S_fillK_o 2000 0 h I ⟨by decide, by decide⟩ (by decide) (fun i hi => absurd hi (Nat.not_lt_zero i))
  refine sf_n (show PJ7_fill_53178_k26 0 h from s1.1) ?_
  unfold PX3_begin_onc1_13 FX3_begin_onc1_13
  have s2 := S_fillN_o 2000 0 _ s1.2.1 ⟨by decide, by decide⟩ (by decide) s1.2.2
  refine sf_n (show PJ7_fill_53178_k27 0 _ from s2.1) ?_
  unfold PX3_begin_onc1_21 FX3_begin_onc1_21
  have I3 := ICc_o s2.2.1 4 s2.2.2
  refine sf_n (cpok_iv (iv_lit (lo := 0) (hi := 0) (x := 0) rfl) (iv_lit (lo := 0) (hi := 0) (x := 0) rfl) (iv_lit (lo := 12) (hi := 12) (x := 12) rfl) rfl) ?_
  have s4 := SJ7_fill_53178_k28 (z := z) 0 _ I3
  refine sf_n s4.1 ?_
  unfold PX3_begin_onc1_44 FX3_begin_onc1_44
  have s5 := SJ7_fill_53178_k29 (z := z) 0 _ s4.2
  refine sf_n s5.1 ?_
  unfold PX3_begin_onc1_52 FX3_begin_onc1_52
  exact sf_n (iv_in (iv_lit (lo := 0) (hi := 0) (x := 0) rfl) rfl) ⟨trivial, ICs (k := 25) (i := 12) (ICa 25 11 (ICs (k := 25) (i := 10) (ICa 29 _ s5.2 rfl rfl) (show iv 0 12 0 from ⟨by decide, by decide⟩) rfl) rfl rfl) (show iv 0 30 0 from ⟨by decide, by decide⟩) rfl⟩
