/-! THE RUN on both sides: turns, then freely, then how it was over -/
theorem who21 {z : zT} {h g : ph_H} (R : RC h g) (I : IM z g) : ∀ (q : Nat) (x : Int32), iv 0 4 x → FX3_whoGoes_s_21 q x h = FX12_free_12 q x g
  | 0, x, f => rfl
  | q + 1, x, f => by
    have k1 : (1 : Int32).toInt = 1 := by decide
    have k4 : (4 : Int32).toInt = 4 := by decide
    unfold iv at f
    unfold FX3_whoGoes_s_21 FX12_free_12
    by_cases c : 4 ≤ x
    · rw [if_pos c, if_pos c]
    · rw [if_neg c, if_neg c]
      rw [Int32.le_iff_toInt_le, k4] at c
      rw [canGo_eq R I (t := x) ⟨f.1, by omega⟩, who21 R I q (x + 1) (by
        unfold iv
        rw [ti_add (by omega) (by omega), k1]
        omega)]
theorem who_eq {z : zT} {h g : ph_H} {a : Int32} (R : RC h g) (I : IM z g) (f : iv 0 3 a) : FX3_whoGoes_s a h = FX12_free a g := by
  have k4 : (4 : Int32).toInt = 4 := by decide
  unfold FX3_whoGoes_s FX3_whoGoes_s_19 FX12_free
  have f' := f
  unfold iv at f
  rw [if_neg (nn_t f.1), if_neg (by rw [Int32.le_iff_toInt_le, k4]; omega), canGo_eq R I f', who21 R I 2000 0 ⟨by decide, by decide⟩]
theorem free_in {g : ph_H} {a : Int32} (fa : iv 0 3 a) (n : ¬ FX12_free a g < 0) : iv 0 3 (FX12_free a g) ∧ ¬ FX12_canGo (FX12_free a g) g = 0 := by
  have L : ∀ (q : Nat) (x : Int32), iv 0 4 x → 4 - x.toInt < (q : Int) → ¬ FX12_free_12 q x g < 0 → iv 0 3 (FX12_free_12 q x g) ∧ ¬ FX12_canGo (FX12_free_12 q x g) g = 0 := by
    intro q
    induction q with
    | zero =>
      intro x f m
      unfold iv at f
      omega
    | succ q ih =>
      intro x f m
      have k1 : (1 : Int32).toInt = 1 := by decide
      have k4 : (4 : Int32).toInt = 4 := by decide
      unfold iv at f
      unfold FX12_free_12
      by_cases c : 4 ≤ x
      · rw [if_pos c]
        exact fun w => absurd (by decide) w
      · rw [if_neg c]
        rw [Int32.le_iff_toInt_le, k4] at c
        have e1 : (x + 1).toInt = x.toInt + 1 := by rw [ti_add (by omega) (by omega), k1]
        by_cases d : FX12_canGo x g = 0
        · rw [if_pos d]
          exact ih (x + 1) (by unfold iv; omega) (by omega)
        · rw [if_neg d]
          exact fun _ => ⟨⟨f.1, by omega⟩, d⟩
  unfold FX12_free at *
  by_cases c : FX12_canGo a g = 0
  · rw [if_pos c] at n ⊢
    exact L 2000 0 ⟨by decide, by decide⟩ (by decide) n
  · rw [if_neg c]
    exact ⟨fa, c⟩
def TN (h g : ph_H) : Prop := h 8 7 = g 0 9 ∧ ∀ k : Nat, (k : Int) < (g 0 9).toInt → h 13 k = g 8 k ∧ h 14 k = g 9 k
def RUN (z : zT) (h g : ph_H) : Prop := RC h g ∧ TR h g ∧ RH z g ∧ TN h g ∧ 0 ≤ (g 0 25).toInt ∧ g 24 (g 0 24).toNatClampNeg = g 0 18
theorem adv_no {z : zT} {h g : ph_H} {t : Int32} (R : RC h g) (T : TR h g) (I : IM z g) (ht : iv 0 3 t) (c : ¬ g 0 25 = 0 ∨ 300 ≤ g 0 24 ∨ FX12_canGo t g = 0) : FX10_advance_s t h = (0, h) := by
  obtain ⟨t1, t2, t3, t4, t5, t6⟩ := T
  unfold FX10_advance_s
  rw [t1, t3]
  by_cases a : g 0 25 = 0
  · rw [if_pos a]
    by_cases b : g 0 24 < 300
    · rw [if_pos b]
      rcases c with c | c | c
      · exact absurd a c
      · rw [Int32.lt_iff_toInt_lt] at b
        rw [Int32.le_iff_toInt_le] at c
        omega
      · rw [go_no R I ht c]
        rfl
    · rw [if_neg b]
  · rw [if_neg a]
theorem kp24a : ∀ (q : Nat) (s x : Int32) (g : ph_H), iv 0 4 x → 4 - x.toInt < (q : Int) → FX12_keep_50 q s x g 24 s.toNatClampNeg = g 0 18
  | 0, s, x, g, f, m => by unfold iv at f; omega
  | q + 1, s, x, g, f, m => by
    have k1 : (1 : Int32).toInt = 1 := by decide
    have k4 : (4 : Int32).toInt = 4 := by decide
    unfold iv at f
    unfold FX12_keep_50
    by_cases c : 4 ≤ x
    · rw [if_pos c]
      have e := fr4_FX12_keep_104 (h0 := hs g 24 s.toNatClampNeg (g 0 18)) 2000 s 0 _ (EQ_r _)
      rw [e 24 _ rfl, hs_self]
    · rw [if_neg c]
      rw [Int32.le_iff_toInt_le, k4] at c
      have e1 : (x + 1).toInt = x.toInt + 1 := by rw [ti_add (by omega) (by omega), k1]
      rw [kp24a q s (x + 1) _ (by unfold iv; omega) (by omega), hs_o (by simp), hs_o (by simp)]
theorem kp24b : ∀ (q : Nat) (s x : Int32) (g : ph_H), iv 0 28 x → 28 - x.toInt < (q : Int) → FX12_keep_2 q s x g 24 s.toNatClampNeg = g 0 18
  | 0, s, x, g, f, m => by unfold iv at f; omega
  | q + 1, s, x, g, f, m => by
    have k1 : (1 : Int32).toInt = 1 := by decide
    have k28 : (28 : Int32).toInt = 28 := by decide
    unfold iv at f
    unfold FX12_keep_2
    by_cases c : 28 ≤ x
    · rw [if_pos c]
      exact kp24a 2000 s 0 g ⟨by decide, by decide⟩ (by decide)
    · rw [if_neg c]
      rw [Int32.le_iff_toInt_le, k28] at c
      have e1 : (x + 1).toInt = x.toInt + 1 := by rw [ti_add (by omega) (by omega), k1]
      rw [kp24b q s (x + 1) _ (by unfold iv; omega) (by omega), hs_o (by simp), hs_o (by simp)]
theorem kp24 (s : Int32) (g : ph_H) : FX12_keep s g 24 s.toNatClampNeg = g 0 18 := kp24b 2000 s 0 g ⟨by decide, by decide⟩ (by decide)
theorem sk24 (t : Int32) (g : ph_H) : FX12_stepKept t g 24 (FX12_stepKept t g 0 24).toNatClampNeg = FX12_stepKept t g 0 18 := by
  rw [sk_eq]
  have e := frK_FX12_keep (h0 := kW t (kI (g 0 23) (FX12_step t (cg1 t g)))) (FX12_step t (cg1 t g) 0 24) _ (EQ_r _)
  have w : ∀ i, kW t (kI (g 0 23) (FX12_step t (cg1 t g))) 0 i = FX12_step t (cg1 t g) 0 i := fun i => by rw [kW_o _ _ _ _ (by omega), kI_o _ _ _ _ (by omega)]
  rw [e 0 24 rfl, e 0 18 rfl, w, kp24]
theorem RUN_adv {z : zT} {h g : ph_H} {t : Int32} (U : RUN z h g) (ht : iv 0 3 t) (c : ¬ FX12_canGo t g = 0) (nf : g 0 25 = 0) (ns : ¬ 300 ≤ g 0 24) : (FX10_advance_s t h).1 = 1 ∧ RUN z (FX10_advance_s t h).2 (FX12_stepKept t g) ∧ (FX12_stepKept t g 0 24).toInt = (g 0 24).toInt + 1 := by
  obtain ⟨R, T, H, N, F, KK⟩ := U
  have H' := H
  obtain ⟨z', zm1, I, z33, rm, hch⟩ := H
  have k300 : (300 : Int32).toInt = 300 := by decide
  have s300 : iv 0 300 (g 0 24) := IMv I 0 24
  have ns' : iv 0 299 (g 0 24) := by
    rw [Int32.le_iff_toInt_le, k300] at ns
    unfold iv at *
    omega
  have nk : g 0 33 = 0 := (IMz I 0 33 rfl).trans z33
  have hc2 : (g 0 60).toInt ≤ (g 0 24).toInt := by
    rw [IMz I 0 60 rfl, IMz I 0 24 rfl]
    exact hch
  obtain ⟨a1, a2, a3, a4⟩ := adv_eq R T I ht c nf nk ns' hc2
  obtain ⟨_, c12, _⟩ := cg_true c
  have fn : iv 0 23 (g 12 t.toNatClampNeg) := by
    have := IMv I 12 t.toNatClampNeg
    exact iv_nel (y := 24) (show iv 0 24 _ from this) c12 rfl
  obtain ⟨_, b2, b3⟩ := T_kept H' ht fn ns'
  have fa := frA_FX10_advance_s (h0 := h) t h (EQ_r _)
  have ft := frT_FX12_stepKept (h0 := g) t g (EQ_r _)
  refine ⟨a1, ⟨a2, a3, b2, ⟨?_, fun k hk => ?_⟩, a4, sk24 t g⟩, b3⟩
  · rw [fa 8 7 rfl, ft 0 9 rfl]
    exact N.1
  · rw [ft 0 9 rfl] at hk
    rw [fa 13 k rfl, fa 14 k rfl, ft 8 k rfl, ft 9 k rfl]
    exact N.2 k hk
theorem RH_IM {z : zT} {g : ph_H} (H : RH z g) : ∃ z', IM z' g := by
  obtain ⟨z', _, I, _⟩ := H
  exact ⟨z', I⟩
theorem turn_in {z : zT} (L31 : Int32 → ph_H → Int32 × ph_H) (L2 : Int32 → ph_H → ph_H) (k t : Int32) (fk : iv 0 39 k) (ft : iv 0 3 t) : ∀ (q : Nat) (q' : Nat) (x : Int32) (h g : ph_H), RUN z h g → g 8 k.toNatClampNeg = t → k.toInt < (g 0 9).toInt → iv 0 100 x → 100 - x.toInt < (q : Int) → 101 - x.toInt < (q' : Int) → ∃ h' g', FX12_run_41 L31 q k x g = L31 (k + 1) g' ∧ FX10_takeTurns_st_30 L2 q' k t 1 x h = L2 (k + 1) h' ∧ RUN z h' g' ∧ g' 0 9 = g 0 9
  | 0, q', x, h, g, U, e8, hk, f, m, m' => by unfold iv at f; omega
  | q + 1, 0, x, h, g, U, e8, hk, f, m, m' => by unfold iv at f; omega
  | q + 1, q' + 1, x, h, g, U, e8, hk, f, m, m' => by
    have k1 : (1 : Int32).toInt = 1 := by decide
    have kn := iv_nat fk rfl
    have U' := U
    obtain ⟨R, T, H, N, F, KK⟩ := U
    obtain ⟨z', I⟩ := RH_IM H
    obtain ⟨n1, n2⟩ := N.2 k.toNatClampNeg (by omega)
    have f' := f
    unfold iv at f
    have b100 : iv 0 100 (g 9 k.toNatClampNeg) := IMv I 9 _
    unfold iv at b100
    have stop : FX10_advance_s t h = (0, h) → ¬ g 9 k.toNatClampNeg ≤ x → FX10_takeTurns_st_30 L2 (q' + 1) k t 1 x h = L2 (k + 1) h := fun e c => by
      rw [Int32.le_iff_toInt_le] at c
      obtain ⟨q2, rfl⟩ : ∃ q2, q' = q2 + 1 := ⟨q' - 1, by omega⟩
      unfold FX10_takeTurns_st_30 FX10_takeTurns_st_61 FX10_takeTurns_st_53
      rw [n2, if_neg (by rw [Int32.le_iff_toInt_le]; omega), if_neg (by decide), e]
      show FX10_takeTurns_st_30 L2 (q2 + 1) k t 0 (x + 1) h = _
      unfold FX10_takeTurns_st_30 FX10_takeTurns_st_61
      rw [if_pos (rfl : (0 : Int32) = 0)]
      split <;> rfl
    by_cases c : g 9 k.toNatClampNeg ≤ x
    · refine ⟨h, g, ?_, ?_, U', rfl⟩
      · unfold FX12_run_41 FX12_run_97
        rw [if_pos c]
      · unfold FX10_takeTurns_st_30 FX10_takeTurns_st_61
        rw [n2, if_pos c]
    · by_cases nf : g 0 25 = 0
      · by_cases ns : 300 ≤ g 0 24
        · refine ⟨h, g, ?_, stop (adv_no R T I ft (Or.inr (Or.inl ns))) c, U', rfl⟩
          unfold FX12_run_41 FX12_run_97
          rw [if_neg c, if_pos nf, if_pos ns]
        · by_cases cg : FX12_canGo t g = 0
          · refine ⟨h, g, ?_, stop (adv_no R T I ft (Or.inr (Or.inr cg))) c, U', rfl⟩
            unfold FX12_run_41 FX12_run_97
            rw [if_neg c, if_pos nf, if_neg ns, e8, if_pos cg]
          · obtain ⟨a1, a2, a3⟩ := RUN_adv U' ft cg nf ns
            have fr := frT_FX12_stepKept (h0 := g) t g (EQ_r _)
            rw [Int32.le_iff_toInt_le] at c
            have e1 : (x + 1).toInt = x.toInt + 1 := by rw [ti_add (by omega) (by omega), k1]
            obtain ⟨h', g', b1, b2, b3, b4⟩ := turn_in L31 L2 k t fk ft q q' (x + 1) _ _ a2 (by rw [fr 8 _ rfl]; exact e8) (by rw [fr 0 9 rfl]; exact hk) (by unfold iv; omega) (by omega) (by omega)
            refine ⟨h', g', ?_, ?_, b3, b4.trans (fr 0 9 rfl)⟩
            · rw [← b1]
              show FX12_run_41 L31 (q + 1) k x g = _
              rw [FX12_run_41]
              unfold FX12_run_91
              rw [if_neg (by rw [Int32.le_iff_toInt_le]; exact c), if_pos nf, if_neg ns, e8, if_neg cg]
            · rw [← b2, FX10_takeTurns_st_30]
              unfold FX10_takeTurns_st_53
              rw [n2, if_neg (by rw [Int32.le_iff_toInt_le]; exact c), if_neg (by decide), a1]
      · refine ⟨h, g, ?_, stop (adv_no R T I ft (Or.inl nf)) c, U', rfl⟩
        unfold FX12_run_41 FX12_run_97
        rw [if_neg c, if_neg nf]
theorem turns_eq {z : zT} : ∀ (q : Nat) (q' : Nat) (x : Int32) (h g : ph_H), RUN z h g → iv 0 40 x → 40 - x.toInt < (q : Int) → 40 - x.toInt < (q' : Int) → ∃ g', FX12_run_31 q x g = FX12_run_112 2000 (FX12_free (g' 0 26) g') g' ∧ RUN z (FX10_takeTurns_st_2 q' x h) g'
  | 0, q', x, h, g, U, f, m, m' => by unfold iv at f; omega
  | q + 1, 0, x, h, g, U, f, m, m' => by unfold iv at f; omega
  | q + 1, q' + 1, x, h, g, U, f, m, m' => by
    have k1 : (1 : Int32).toInt = 1 := by decide
    have k40 : (40 : Int32).toInt = 40 := by decide
    have U' := U
    obtain ⟨R, T, H, N, F, KK⟩ := U
    obtain ⟨z', I⟩ := RH_IM H
    have t40 : iv 0 40 (g 0 9) := IMv I 0 9
    have xn := iv_nat f rfl
    unfold iv at f t40
    unfold FX12_run_31 FX10_takeTurns_st_2
    rw [N.1]
    by_cases c : g 0 9 ≤ x
    · rw [if_pos c, if_pos c]
      exact ⟨g, rfl, U'⟩
    · rw [if_neg c, if_neg c]
      rw [Int32.le_iff_toInt_le] at c
      rw [if_neg (by rw [Int32.le_iff_toInt_le, k40]; omega)]
      obtain ⟨n1, n2⟩ := N.2 x.toNatClampNeg (by omega)
      have e1 : (x + 1).toInt = x.toInt + 1 := by rw [ti_add (by omega) (by omega), k1]
      have f3 : iv 0 3 (g 8 x.toNatClampNeg) := IMv I 8 _
      obtain ⟨h', g', b1, b2, b3, b4⟩ := turn_in (FX12_run_31 q) (FX10_takeTurns_st_2 q') x (g 8 x.toNatClampNeg) ⟨f.1, by omega⟩ f3 2000 2000 0 h g U' rfl (by omega) ⟨by decide, by decide⟩ (by decide) (by decide)
      rw [b1, n1, b2]
      exact turns_eq q q' (x + 1) h' g' b3 (by unfold iv; omega) (by omega) (by omega)
theorem goon_eq {z : zT} : ∀ (q : Nat) (q' : Nat) (n : Int32) (h g : ph_H), RUN z h g → iv 0 300 n → n.toInt ≤ (g 0 24).toInt → 300 - (g 0 24).toInt < (q : Int) → 301 - n.toInt < (q' : Int) → ∃ g', FX12_run_112 q (FX12_free (g 0 26) g) g = FX12_run_150 g' ∧ RUN z (FX10_goOn_s_4 q' 1 n h) g'
  | 0, q', n, h, g, U, f, l, m, m' => by
    obtain ⟨z', I⟩ := RH_IM U.2.2.1
    have s300 : iv 0 300 (g 0 24) := IMv I 0 24
    unfold iv at s300
    omega
  | q + 1, 0, n, h, g, U, f, l, m, m' => by unfold iv at f; omega
  | q + 1, q' + 1, n, h, g, U, f, l, m, m' => by
    have k1 : (1 : Int32).toInt = 1 := by decide
    have k300 : (300 : Int32).toInt = 300 := by decide
    have U' := U
    obtain ⟨R, T, H, N, F, KK⟩ := U
    obtain ⟨z', I⟩ := RH_IM H
    have s300 : iv 0 300 (g 0 24) := IMv I 0 24
    have w3 : iv 0 3 (g 0 26) := IMv I 0 26
    have who := who_eq R I w3
    have lat := T.2.2.2.2.2
    unfold iv at f s300
    have halt : ∀ (q2 : Nat) (n2 : Int32), FX10_goOn_s_4 q2 0 n2 h = h := fun q2 n2 => by
      cases q2 with
      | zero => rfl
      | succ q2 =>
        unfold FX10_goOn_s_4
        rw [if_pos (rfl : (0 : Int32) = 0)]
        split <;> rfl
    have stop : FX10_advance_s (FX12_free (g 0 26) g) h = (0, h) → FX10_goOn_s_4 (q' + 1) 1 n h = h := fun e => by
      unfold FX10_goOn_s_4 FX10_goOn_s_44 FX10_goOn_s_37 FX10_goOn_s_45 FX10_goOn_s_44
      rw [lat, who, e]
      split
      · rfl
      · rw [if_neg (by decide)]
        split
        · exact halt _ _
        · rw [if_pos rfl]
          exact halt _ _
    by_cases c : FX12_free (g 0 26) g < 0
    · refine ⟨g, ?_, ?_⟩
      · unfold FX12_run_112
        rw [if_pos c]
      · have : FX10_goOn_s_4 (q' + 1) 1 n h = h := by
          unfold FX10_goOn_s_4 FX10_goOn_s_44 FX10_goOn_s_45
          rw [lat, who, if_pos c]
          split
          · rfl
          · rw [if_neg (by decide)]
            exact halt _ _
        rw [this]
        exact U'
    · obtain ⟨c1, c2⟩ := free_in w3 c
      by_cases nf : g 0 25 = 0
      · by_cases ns : 300 ≤ g 0 24
        · refine ⟨g, ?_, ?_⟩
          · unfold FX12_run_112
            rw [if_neg c, if_pos nf, if_pos ns]
          · rw [stop (adv_no R T I c1 (Or.inr (Or.inl ns)))]
            exact U'
        · obtain ⟨a1, a2, a3⟩ := RUN_adv U' c1 c2 nf ns
          have ns2 := ns
          rw [Int32.le_iff_toInt_le, k300] at ns2
          have e1 : (n + 1).toInt = n.toInt + 1 := by rw [ti_add (by omega) (by omega), k1]
          obtain ⟨g', b1, b2⟩ := goon_eq q q' (n + 1) _ _ a2 (by unfold iv; omega) (by omega) (by omega) (by omega)
          refine ⟨g', ?_, ?_⟩
          · rw [← b1, FX12_run_112]
            unfold FX12_run_138
            rw [if_neg c, if_pos nf, if_neg ns]
          · have : FX10_goOn_s_4 (q' + 1) 1 n h = FX10_goOn_s_4 q' 1 (n + 1) (FX10_advance_s (FX12_free (g 0 26) g) h).2 := by
              rw [FX10_goOn_s_4]
              unfold FX10_goOn_s_37 FX10_goOn_s_45
              have n3 : ¬ 300 ≤ n := by rw [Int32.le_iff_toInt_le, k300]; omega
              rw [lat, who, a1]
              simp (decide := true) only [c, n3, ↓reduceIte]
            rw [this]
            exact b2
      · refine ⟨g, ?_, ?_⟩
        · unfold FX12_run_112
          rw [if_neg c, if_neg nf]
        · rw [stop (adv_no R T I c1 (Or.inl nf))]
          exact U'
/-- how it was over -/
theorem over23 {z : zT} {h g : ph_H} (R : RC h g) (I : IM z g) : ∀ (q : Nat) (x : Int32), iv 0 4 x → 4 - x.toInt < (q : Int) → FX12_ending_23 q 0 x g = 1 ∧ FX12_ending_23 q 1 x g = if FX3_allStartedHaveEnded_s_2 q x h = 0 then 1 else 0
  | 0, x, f, m => by unfold iv at f; omega
  | q + 1, x, f, m => by
    have k1 : (1 : Int32).toInt = 1 := by decide
    have k4 : (4 : Int32).toInt = 4 := by decide
    unfold iv at f
    unfold FX12_ending_23 FX12_ending_52 FX12_ending_56 FX12_ending_57 FX3_allStartedHaveEnded_s_2 FX3_allStartedHaveEnded_s_26
    by_cases c : 4 ≤ x
    · simp (decide := true) only [c, ↓reduceIte, and_self]
    · rw [if_neg c, if_neg c, if_neg c]
      rw [Int32.le_iff_toInt_le, k4] at c
      have fx : iv 0 3 x := ⟨f.1, by omega⟩
      have e1 : (x + 1).toInt = x.toInt + 1 := by rw [ti_add (by omega) (by omega), k1]
      obtain ⟨i1, i2⟩ := over23 R I q (x + 1) (by unfold iv; omega) (by omega)
      rw [if_pos rfl, if_neg (by decide), i1, i2, ended_eq R I fx]
      refine ⟨rfl, ?_⟩
      have md := R.2.2.1 _ (t_lt fx)
      by_cases s : g 13 x.toNatClampNeg = 0
      · have s' : h 19 x.toNatClampNeg = 0 := by
          rcases md with ⟨m, st, as, wk⟩ | ⟨m, st, as, wk⟩ | ⟨m, st, as, q, wk⟩ | ⟨m, st, as, wk, q⟩
          · exact m
          all_goals exact absurd (s.symm.trans st) (by decide)
        rw [if_pos s, if_pos s']
      · have s' : ¬ h 19 x.toNatClampNeg = 0 := fun w => s (MD0 md w).1
        rw [if_neg s, if_neg s']
        by_cases e : g 12 x.toNatClampNeg = 24
        · simp (decide := true) only [e, ↓reduceIte]
        · simp (decide := true) only [e, ↓reduceIte]
theorem over_eq {z : zT} {h g : ph_H} (U : RUN z h g) : FX10_howOver_s h = FX12_ending g := by
  obtain ⟨R, T, H, N, F, KK⟩ := U
  obtain ⟨z', I⟩ := RH_IM H
  have k0 : (0 : Int32).toInt = 0 := by decide
  have who := who_eq R I (a := 0) ⟨by decide, by decide⟩
  obtain ⟨_, o⟩ := over23 R I 2000 0 ⟨by decide, by decide⟩ (by decide)
  unfold FX10_howOver_s FX12_ending FX3_allStartedHaveEnded_s
  rw [T.2.2.1, who, o]
  by_cases c : g 0 25 = 0
  · simp (decide := true) only [c, ↓reduceIte]
  · rw [if_neg c, if_neg (fun w => c (tI (by rw [Int32.le_iff_toInt_le, k0] at w; omega)))]
