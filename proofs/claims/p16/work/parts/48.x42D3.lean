/-! PLAY: step by step -/
def REC (n : Int32) (h g : ph_H) : Prop := (∀ i : Nat, (i : Int) < n.toInt → h 45 i = g 37 i ∧ h 46 i = g 38 i ∧ 0 ≤ (g 37 i).toInt ∧ iv 0 3 (g 38 i)) ∧ (∀ i j : Nat, i < j → (j : Int) < n.toInt → (g 37 i).toInt < (g 37 j).toInt)
def tdT (g : ph_H) (p : Nat) : Int32 := if p = 0 then 0 else g 38 (p - 1)
theorem td5 {g : ph_H} {n s1 : Int32} {p : Nat} (fn : iv 0 300 n) (Ca : ∀ i : Nat, i < p → (g 37 i).toInt < s1.toInt) (Cb : ∀ i : Nat, p ≤ i → (i : Int) < n.toInt → s1.toInt ≤ (g 37 i).toInt) (pn : (p : Int) ≤ n.toInt) : ∀ (q : Nat) (y x : Int32), 0 ≤ x.toInt → x.toInt ≤ n.toInt → n.toInt - x.toInt < (q : Int) → FX12_toldThread_5 q n s1 y x g = if (p : Int) ≤ x.toInt then y else g 38 (p - 1)
  | 0, y, x, x0, x1, m => by omega
  | q + 1, y, x, x0, x1, m => by
    have k1 : (1 : Int32).toInt = 1 := by decide
    unfold iv at fn
    unfold FX12_toldThread_5 FX12_toldThread_33
    by_cases c : n ≤ x
    · rw [if_pos c]
      rw [Int32.le_iff_toInt_le] at c
      rw [if_pos (by omega)]
    · rw [if_neg c]
      rw [Int32.le_iff_toInt_le] at c
      have xn : (x.toNatClampNeg : Int) = x.toInt := by
        rw [← Int32.toNat_toInt]
        omega
      have e1 : (x + 1).toInt = x.toInt + 1 := by rw [ti_add (by omega) (by omega), k1]
      rw [td5 fn Ca Cb pn q _ (x + 1) (by omega) (by omega) (by omega), td5 fn Ca Cb pn q _ (x + 1) (by omega) (by omega) (by omega), e1]
      by_cases d : (p : Int) ≤ x.toInt
      · rw [if_pos (by rw [Int32.le_iff_toInt_le]; exact Cb x.toNatClampNeg (by omega) (by omega)), if_pos d, if_pos (by omega)]
      · rw [if_neg (by rw [Int32.le_iff_toInt_le]; have := Ca x.toNatClampNeg (by omega); omega), if_neg d]
        by_cases e : (p : Int) ≤ x.toInt + 1
        · rw [if_pos e]
          have : x.toNatClampNeg = p - 1 := by omega
          rw [this]
        · rw [if_neg e]
theorem td_eq {g : ph_H} {n s1 : Int32} {p : Nat} (fn : iv 0 300 n) (Ca : ∀ i : Nat, i < p → (g 37 i).toInt < s1.toInt) (Cb : ∀ i : Nat, p ≤ i → (i : Int) < n.toInt → s1.toInt ≤ (g 37 i).toInt) (pn : (p : Int) ≤ n.toInt) : FX12_toldThread n s1 g = tdT g p := by
  have k0 : (0 : Int32).toInt = 0 := by decide
  unfold FX12_toldThread tdT
  have f := fn
  unfold iv at f
  rw [td5 fn Ca Cb pn 2000 0 0 (by rw [k0]; exact Int.le_refl _) (by rw [k0]; exact f.1) (by rw [k0]; omega), k0]
  by_cases c : p = 0
  · rw [if_pos c, if_pos (by omega)]
  · rw [if_neg c, if_neg (by omega)]
def SAMEo (c r : Int32 × ph_H) : Prop := c.1 = r.2 0 66 ∧ c.2 0 11 = r.1
def PS (z : zT) (n x4 th p : Int32) (h g : ph_H) : Prop := RP z g ∧ RCo1 h g ∧ g 0 25 = 0 ∧ g 0 35 = 0 ∧ ¬ g 0 33 = 0 ∧ g 0 66 = -1 ∧ h 0 11 = g 0 24 ∧ th = g 0 26 ∧ REC n h g ∧ (∀ i : Nat, (i : Int) < n.toInt → (g 37 i).toInt ≤ x4.toInt) ∧ (0 ≤ p.toInt ∧ p.toInt ≤ n.toInt) ∧ (∀ i : Nat, (i : Int) < p.toInt → (g 37 i).toInt < (g 0 24).toInt) ∧ (∀ i : Nat, p.toInt ≤ i → (i : Int) < n.toInt → (g 0 24).toInt ≤ (g 37 i).toInt) ∧ ((g 0 24).toInt ≤ x4.toInt → th = tdT g p.toNatClampNeg)
section
variable {z : zT} {n x4 x3 t p : Int32} {h g : ph_H} {L37 : Int32 → Int32 → Int32 → Int32 → ph_H → Int32 × ph_H} {L83 : Int32 → Int32 → ph_H → Int32 × ph_H}
theorem RP_IM (I : RP z g) : ∃ z', IM z' g := by
  obtain ⟨z', _, i, _⟩ := I
  exact ⟨z', i⟩
theorem pl_go (F : ∀ g', 0 ≤ g' 0 66 → L83 n x3 g' = (g' 0 24, hs g' 0 33 0)) (IH : ∀ h' g', PS z n x4 t p h' g' → (g' 0 24).toInt = (g 0 24).toInt + 1 → SAMEo (L37 n t p x4 h') (L83 n x3 g'))
  (I : RP z g) (R : RCo1 h g) (z25 : g 0 25 = 0) (z35 : g 0 35 = 0) (n33 : ¬ g 0 33 = 0) (e11 : h 0 11 = g 0 24) (rec : REC n h g) (X : ∀ i : Nat, (i : Int) < n.toInt → (g 37 i).toInt ≤ x4.toInt) (fp : 0 ≤ p.toInt ∧ p.toInt ≤ n.toInt) (Ca : ∀ i : Nat, (i : Int) < p.toInt → (g 37 i).toInt ≤ (g 0 24).toInt) (Cb : ∀ i : Nat, p.toInt ≤ i → (i : Int) < n.toInt → (g 0 24).toInt < (g 37 i).toInt) (Cd : (g 0 24).toInt ≤ x4.toInt → t = tdT g p.toNatClampNeg) (ht : iv 0 3 t) (c : ¬ FX12_canGo t g = 0) (ns : iv 0 299 (g 0 24)) : SAMEo (FX11_goByRecordc1_120 L37 n t p x4 (FX3_go_oc1 t h).1 (FX3_go_oc1 t h).2) (FX12_play_215 L83 n x3 (FX12_step t g)) := by
  have k0 : (0 : Int32).toInt = 0 := by decide
  have k1 : (1 : Int32).toInt = 1 := by decide
  obtain ⟨z', i⟩ := RP_IM I
  have fr := frP_FX3_go_oc1 (h0 := h) t h (EQ_r h)
  have f11 : (FX3_go_oc1 t h).2 0 11 = h 0 11 := frH_FX3_go_oc1 (h0 := h) t h (EQ_r h) 0 11 rfl
  have fs := frS_FX12_step (h0 := g) t g (EQ_r g)
  unfold FX11_goByRecordc1_120 FX12_play_215 FX12_play_239 FX12_play_242
  by_cases a : asksU t g
  · obtain ⟨q1, q2⟩ := go_askso1 R i ht c a
    rw [q1, if_neg (by decide), if_pos rfl, q2, hs_self, if_neg (by decide), F _ (by rw [hs_self]; decide)]
    refine ⟨?_, ?_⟩
    · dsimp only
      rw [hs_o (by simp), hs_self]
    · dsimp only
      rw [f11, e11]
      simp [hs_get]
  · obtain ⟨q1, q2, q3, q4⟩ := go_eqo1 R i ht c z25 a
    obtain ⟨s24, s26, -, -, s35⟩ := step_rec a
    rw [q1, s35, z35, if_pos rfl]
    have nn : 0 ≤ (FX12_step t g 0 25).toInt := q4.1
    have n7 := step_n7 (t := t) n33 z25
    have nm : ¬ FX12_step t g 0 25 = -1 := fun w => by
      rw [w] at nn
      exact absurd nn (by decide)
    rw [if_neg nm, if_neg n7, f11, e11]
    unfold iv at ns
    have es : (g 0 24 + 1).toInt = (g 0 24).toInt + 1 := by rw [ti_add (by omega) (by omega), k1]
    by_cases e : FX12_step t g 0 25 = 0
    · rw [if_pos e, if_pos (by rw [e]; decide)]
      have v24 : hs (FX12_step t g) 0 66 (-1) 0 24 = g 0 24 + 1 := by rw [hs_o (by simp), s24]
      refine IH _ _ ?_ (by rw [v24, es])
      obtain ⟨_, c12, _⟩ := cg_true c
      have fn : iv 0 23 (g 12 t.toNatClampNeg) := iv_nel (y := 24) (show iv 0 24 _ from IMv i 12 _) c12 rfl
      have ps := (P_step I ht fn ⟨ns.1, ns.2⟩).2.1
      have r37 : ∀ j, hs (FX12_step t g) 0 66 (-1) 37 j = g 37 j := fun j => by rw [hs_o (by simp), fs 37 j rfl]
      have r38 : ∀ j, hs (FX12_step t g) 0 66 (-1) 38 j = g 38 j := fun j => by rw [hs_o (by simp), fs 38 j rfl]
      refine ⟨RPa 0 66 ps rfl rfl, ?_, by rw [hs_o (by simp)]; exact e, by rw [hs_o (by simp), s35]; exact z35, by rw [hs_o (by simp), fs 0 33 rfl]; exact n33, hs_self _ _ _ _, by rw [hs_self, v24], by rw [hs_o (by simp), s26], ⟨fun j hj => ?_, fun j l hj hl => ?_⟩, fun j hj => by rw [r37]; exact X j hj, fp, fun j hj => ?_, fun j p1 p2 => ?_, fun w => ?_⟩
      · refine q2.congro1 (fun k j q => hs_o (fun w => ?_)) (fun k j q => hs_o (fun w => ?_)) (fun _ j => hs_o (by simp))
        · rw [w.1] at q
          exact absurd q (by simp [cMo1])
        · rw [w.1, w.2] at q
          exact absurd q (by decide)
      · rw [r37, r38, hs_o (by simp), hs_o (by simp), fr 45 j rfl, fr 46 j rfl]
        exact rec.1 j hj
      · rw [r37, r37]
        exact rec.2 j l hj hl
      · rw [r37, v24, es]
        have := Ca j hj
        omega
      · rw [r37, v24, es]
        have := Cb j p1 p2
        omega
      · rw [v24, es] at w
        have := Cd (by omega)
        unfold tdT at this ⊢
        rw [r38]
        exact this
    · have ne : ¬ FX12_step t g 0 25 ≤ 0 := fun w => e (tI (by rw [Int32.le_iff_toInt_le, k0] at w; omega))
      rw [if_neg e, if_neg ne, F _ (by rw [hs_self]; decide)]
      refine ⟨?_, ?_⟩
      · dsimp only
        rw [hs_o (by simp), hs_self]
      · dsimp only
        rw [hs_self, hs_o (by simp), s24]
end
theorem pl_loop {z : zT} {n x4 x3 : Int32} (fn : iv 0 300 n) (e3 : x3.toInt = x4.toInt + 1) (f4 : -1 ≤ x4.toInt ∧ x4.toInt ≤ 299) : ∀ (q : Nat) (th p : Int32) (h g : ph_H), PS z n x4 th p h g → 302 - (g 0 24).toInt < (q : Int) → SAMEo (FX11_goByRecordc1_37 q n th p x4 h) (FX12_play_83 q n x3 g)
  | 0, th, p, h, g, S, m => by
    have f : iv 0 300 (g 0 24) := RPv S.1 0 24
    unfold iv at f
    omega
  | q + 1, th, p, h, g, S, m => by
    have k0 : (0 : Int32).toInt = 0 := by decide
    have k1 : (1 : Int32).toInt = 1 := by decide
    have k300 : (300 : Int32).toInt = 300 := by decide
    obtain ⟨I, R, z25, z35, n33, e66, e11, eth, rec, X, fp, D1, D2, D3⟩ := S
    have f24 : iv 0 300 (g 0 24) := RPv I 0 24
    have f26 : iv 0 3 (g 0 26) := RPv I 0 26
    obtain ⟨z', i⟩ := RP_IM I
    unfold iv at f24 fn
    have F : ∀ g', 0 ≤ g' 0 66 → FX12_play_83 q n x3 g' = (g' 0 24, hs g' 0 33 0) := fun g' w => by
      obtain ⟨q1, rfl⟩ : ∃ q1, q = q1 + 1 := ⟨q - 1, by omega⟩
      unfold FX12_play_83
      rw [if_pos w]
    have FIN : ∀ (v : Int32) (hh : ph_H), 0 ≤ v → hh 0 11 = g 0 24 → SAMEo (v, hh) (FX12_play_83 q n x3 (hs g 0 66 v)) := fun v hh w e => by
      rw [F _ (by rw [hs_self]; exact w)]
      refine ⟨?_, ?_⟩
      · dsimp only
        rw [hs_o (by simp), hs_self]
      · dsimp only
        rw [hs_o (by simp)]
        exact e
    have who0 := who_eqo1 R i (a := 0) ⟨by decide, by decide⟩
    unfold FX11_goByRecordc1_37 FX12_play_83
    rw [if_neg (show ¬ 0 ≤ g 0 66 by rw [e66]; decide), e11]
    by_cases s3 : 300 ≤ g 0 24
    · rw [if_pos s3, who0]
      rw [Int32.le_iff_toInt_le, k300] at s3
      have e300 : g 0 24 = 300 := tI (by omega)
      rw [if_pos (show x3 ≤ g 0 24 by rw [Int32.le_iff_toInt_le]; omega)]
      unfold FX12_play_103 FX12_play_132 FX12_play_166 FX12_play_203 FX12_play_242
      rw [if_pos (show (0 : Int32) = 0 from rfl), if_pos (show (0 : Int32) = 0 from rfl)]
      by_cases c : FX12_free (g 0 26) g < 0
      · have c0 := free_no c f26
        rw [if_neg (show ¬ 0 ≤ FX12_free 0 g from fun w => by rw [Int32.le_iff_toInt_le] at w; rw [Int32.lt_iff_toInt_lt] at c0; omega), if_neg (show ¬ 0 ≤ FX12_free (g 0 26) g from fun w => by rw [Int32.le_iff_toInt_le] at w; rw [Int32.lt_iff_toInt_lt] at c; omega)]
        exact FIN 0 h (by decide) e11
      · rw [if_pos (show 0 ≤ FX12_free (g 0 26) g by rw [Int32.le_iff_toInt_le]; rw [Int32.lt_iff_toInt_lt] at c; omega), if_pos e300]
        by_cases d : FX12_free 0 g < 0
        · rw [if_pos d, if_neg (show ¬ 0 ≤ FX12_free 0 g from fun w => by rw [Int32.le_iff_toInt_le] at w; rw [Int32.lt_iff_toInt_lt] at d; omega)]
          exact FIN 0 h (by decide) e11
        · rw [if_neg d, if_pos (show 0 ≤ FX12_free 0 g by rw [Int32.le_iff_toInt_le]; rw [Int32.lt_iff_toInt_lt] at d; omega)]
          exact FIN 4 h (by decide) e11
    · rw [if_neg s3]
      rw [Int32.le_iff_toInt_le, k300] at s3
      have ns : iv 0 299 (g 0 24) := ⟨f24.1, by omega⟩
      have ne300 : ¬ g 0 24 = 300 := fun w => by rw [w, k300] at s3; omega
      have MID : ∀ (t p' : Int32), iv 0 3 t → (0 ≤ p'.toInt ∧ p'.toInt ≤ n.toInt) → (∀ i : Nat, (i : Int) < p'.toInt → (g 37 i).toInt ≤ (g 0 24).toInt) → (∀ i : Nat, p'.toInt ≤ i → (i : Int) < n.toInt → (g 0 24).toInt < (g 37 i).toInt) → ((g 0 24).toInt ≤ x4.toInt → t = tdT g p'.toNatClampNeg) → (x4.toInt < (g 0 24).toInt → t = g 0 26) → SAMEo (FX11_goByRecordc1_88 (FX11_goByRecordc1_37 q) n t p' x4 h) (if x3 ≤ g 0 24 then FX12_play_103 (FX12_play_83 q) n x3 0 g else FX12_play_103 (FX12_play_83 q) n x3 1 g) := fun t p' ft fp' Ca Cb Cd Ce => by
        have GO : ∀ u, iv 0 3 u → ¬ FX12_canGo u g = 0 → ((g 0 24).toInt ≤ x4.toInt → u = tdT g p'.toNatClampNeg) → SAMEo (FX11_goByRecordc1_120 (FX11_goByRecordc1_37 q) n u p' x4 (FX3_go_oc1 u h).1 (FX3_go_oc1 u h).2) (FX12_play_215 (FX12_play_83 q) n x3 (FX12_step u g)) := fun u fu cu du => pl_go F (fun h' g' S' e => pl_loop (show iv 0 300 n from fn) e3 f4 q u p' h' g' S' (by omega)) I R z25 z35 n33 e11 rec X fp' Ca Cb du fu cu ns
        unfold FX11_goByRecordc1_88 FX11_goByRecordc1_106
        rw [e11]
        by_cases told : g 0 24 ≤ x4
        · rw [if_pos told]
          rw [Int32.le_iff_toInt_le] at told
          have pn : (p'.toNatClampNeg : Int) = p'.toInt := by
            rw [← Int32.toNat_toInt]
            omega
          have es : (g 0 24 + 1).toInt = (g 0 24).toInt + 1 := by rw [ti_add (by omega) (by omega), k1]
          have td : FX12_toldThread n (g 0 24 + 1) g = t := by
            rw [td_eq (p := p'.toNatClampNeg) (show iv 0 300 n from fn) (fun i hi => by rw [es]; have := Ca i (by omega); omega) (fun i h1 h2 => by rw [es]; have := Cb i (by omega) h2; omega) (by omega)]
            exact (Cd told).symm
          rw [if_neg (show ¬ x3 ≤ g 0 24 by rw [Int32.le_iff_toInt_le]; omega)]
          unfold FX12_play_103 FX12_play_132 FX12_play_166 FX12_play_242
          have ft' := ft
          unfold iv at ft'
          have tp : 0 ≤ t := by rw [Int32.le_iff_toInt_le, k0]; exact ft'.1
          rw [if_neg (show ¬ (1 : Int32) = 0 by decide), if_neg (show ¬ (1 : Int32) = 0 by decide), td, if_neg (show ¬ 300 ≤ g 0 24 by rw [Int32.le_iff_toInt_le, k300]; omega), if_pos tp]
          by_cases c : FX12_canGo t g = 0
          · rw [if_pos c, go_noo1 R i ft c]
            unfold FX11_goByRecordc1_120
            rw [if_pos rfl]
            exact FIN 1 h (by decide) e11
          · rw [if_neg c, if_pos tp, if_neg ne300]
            exact GO t ft c Cd
        · rw [if_neg told]
          rw [Int32.le_iff_toInt_le] at told
          rw [if_pos (show x3 ≤ g 0 24 by rw [Int32.le_iff_toInt_le]; omega), Ce (by omega), who_eqo1 R i f26]
          unfold FX12_play_103 FX12_play_132 FX12_play_166 FX12_play_242
          rw [if_pos (show (0 : Int32) = 0 from rfl), if_pos (show (0 : Int32) = 0 from rfl)]
          by_cases c : FX12_free (g 0 26) g < 0
          · have nc : ¬ 0 ≤ FX12_free (g 0 26) g := fun w => by
              rw [Int32.le_iff_toInt_le] at w
              rw [Int32.lt_iff_toInt_lt] at c
              omega
            rw [if_neg nc, if_neg nc]
            exact FIN 0 h (by decide) e11
          · have nc : 0 ≤ FX12_free (g 0 26) g := by
              rw [Int32.le_iff_toInt_le]
              rw [Int32.lt_iff_toInt_lt] at c
              omega
            obtain ⟨c1, c2⟩ := free_in f26 c
            rw [if_pos nc, if_pos nc, if_neg ne300]
            exact GO _ c1 c2 (fun w => by omega)
      have fth : iv 0 3 th := by rw [eth]; exact f26
      by_cases a : n ≤ p
      · rw [if_pos a]
        rw [Int32.le_iff_toInt_le] at a
        exact MID th p fth fp (fun j hj => by have := D1 j hj; omega) (fun j h1 h2 => by omega) D3 (fun _ => eth)
      · rw [if_neg a]
        rw [Int32.le_iff_toInt_le] at a
        rw [if_neg (show ¬ 300 ≤ p by rw [Int32.le_iff_toInt_le, k300]; omega)]
        have pn : (p.toNatClampNeg : Int) = p.toInt := by
          rw [← Int32.toNat_toInt]
          omega
        obtain ⟨r1, r2, r3, r4⟩ := rec.1 p.toNatClampNeg (by omega)
        have D2p := D2 p.toNatClampNeg (by omega) (by omega)
        rw [r1, r2]
        by_cases b : g 37 p.toNatClampNeg = g 0 24
        · rw [if_pos b]
          have ep : (p + 1).toInt = p.toInt + 1 := by rw [ti_add (by omega) (by omega), k1]
          have epn : (p + 1).toNatClampNeg = p.toNatClampNeg + 1 := by
            have : ((p + 1).toNatClampNeg : Int) = p.toInt + 1 := by
              rw [← Int32.toNat_toInt]
              omega
            omega
          refine MID _ (p + 1) r4 (by omega) (fun j hj => ?_) (fun j h1 h2 => ?_) (fun _ => ?_) (fun w => ?_)
          · by_cases d : j = p.toNatClampNeg
            · rw [d, b]
              exact Int.le_refl _
            · have := D1 j (by omega)
              omega
          · have := rec.2 p.toNatClampNeg j (by omega) h2
            rw [b] at this
            exact this
          · unfold tdT
            rw [epn, if_neg (by omega), Nat.add_sub_cancel]
          · have := X p.toNatClampNeg (by omega)
            rw [b] at this
            omega
        · rw [if_neg b]
          have b' : ¬ (g 37 p.toNatClampNeg).toInt = (g 0 24).toInt := fun w => b (tI w)
          refine MID th p fth fp (fun j hj => by have := D1 j hj; omega) (fun j h1 h2 => ?_) D3 (fun _ => eth)
          by_cases d : j = p.toNatClampNeg
          · rw [d]
            omega
          · have := rec.2 p.toNatClampNeg j (by omega) h2
            omega
