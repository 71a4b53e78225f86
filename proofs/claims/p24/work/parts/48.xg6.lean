section MG_48_x60H3
/-! ORDER: the reference's relation -/
def Dr (g : ph_H) (a b : Int32) : Prop := 1 ≤ a.toInt ∧ a.toInt < b.toInt ∧ b.toInt ≤ (g 0 38).toInt ∧ ¬ FX12_isDirect a b g = 0
def TCr (g : ph_H) (u t : Int32) : Prop := ∀ R : Int32 → Int32 → Prop, (∀ a b, Dr g a b → R a b) → (∀ a b c, R a b → R b c → R a c) → R u t
theorem TC_D {g : ph_H} {a b : Int32} (d : Dr g a b) : TCr g a b := fun _ r _ => r a b d
theorem TC_tr {g : ph_H} {a b c : Int32} (x : TCr g a b) (y : TCr g b c) : TCr g a c := fun R r t => t a b c (x R r t) (y R r t)
theorem TC_lt {g : ph_H} {a b : Int32} (x : TCr g a b) : 1 ≤ a.toInt ∧ a.toInt < b.toInt ∧ b.toInt ≤ (g 0 38).toInt := x (fun a b => 1 ≤ a.toInt ∧ a.toInt < b.toInt ∧ b.toInt ≤ (g 0 38).toInt) (fun _ _ d => ⟨d.1, d.2.1, d.2.2.1⟩) (fun a b c p q => ⟨p.1, by omega, q.2.2⟩)
theorem TC_dec {g : ph_H} {a b : Int32} (x : TCr g a b) : ∃ s, Dr g s b ∧ (a = s ∨ TCr g a s) := by
  have T : ∀ a b c : Int32, (TCr g a b ∧ ∃ s, Dr g s b ∧ (a = s ∨ TCr g a s)) → (TCr g b c ∧ ∃ s, Dr g s c ∧ (b = s ∨ TCr g b s)) → (TCr g a c ∧ ∃ s, Dr g s c ∧ (a = s ∨ TCr g a s)) := fun a b c p q => by
    obtain ⟨s, d, e⟩ := q.2
    refine ⟨TC_tr p.1 q.1, s, d, Or.inr ?_⟩
    rcases e with e | e
    · rw [← e]
      exact p.1
    · exact TC_tr p.1 e
  exact (x (fun a b => TCr g a b ∧ ∃ s, Dr g s b ∧ (a = s ∨ TCr g a s)) (fun a b d => ⟨TC_D d, a, d, Or.inl rfl⟩) T).2
theorem wk_marks {g : ph_H} {a b : Int32} (w : ¬ FX12_isWaking a b g = 0) : g 34 a.toNatClampNeg = 3 ∧ g 34 b.toNatClampNeg = 1 ∧ g 35 a.toNatClampNeg = g 35 b.toNatClampNeg := by
  unfold FX12_isWaking at w
  by_cases c1 : g 34 a.toNatClampNeg = 3
  · rw [if_pos c1] at w
    by_cases c2 : g 31 b.toNatClampNeg = 14
    · rw [if_pos c2] at w
      by_cases c3 : g 34 b.toNatClampNeg = 1
      · rw [if_pos c3] at w
        by_cases c4 : g 35 a.toNatClampNeg = g 35 b.toNatClampNeg
        · exact ⟨c1, c3, c4⟩
        · rw [if_neg c4] at w
          exact absurd rfl w
      · rw [if_neg c3] at w
        exact absurd rfl w
    · rw [if_neg c2] at w
      exact absurd rfl w
  · rw [if_neg c1] at w
    exact absurd rfl w
/-- the lines that the class draws -/
def D3 (g : ph_H) (a b : Int32) : Prop := g 29 a.toNatClampNeg = g 29 b.toNatClampNeg ∨ (g 34 a.toNatClampNeg = 2 ∧ g 34 b.toNatClampNeg = 1 ∧ g 35 a.toNatClampNeg = g 35 b.toNatClampNeg) ∨ (g 34 a.toNatClampNeg = 4 ∧ g 35 a.toNatClampNeg = g 29 b.toNatClampNeg)
theorem direct_of {g : ph_H} {a b : Int32} (d : D3 g a b) : ¬ FX12_isDirect a b g = 0 := by
  have X : ∀ x3 s0 : Int32, (¬ x3 = 0 ∨ ¬ s0 = 0) → FX12_isDirect_88 a b x3 s0 g = 1 := fun x3 s0 h => by
    unfold FX12_isDirect_88 FX12_isDirect_108
    by_cases c : x3 = 0
    · rw [if_pos c, if_neg (h.elim (fun n => absurd c n) id)]
    · rw [if_neg c]
  unfold FX12_isDirect
  by_cases c : g 29 a.toNatClampNeg = g 29 b.toNatClampNeg
  · rw [if_pos c]
    decide
  · rw [if_neg c]
    rcases d with d | ⟨d1, d2, d3⟩ | ⟨d1, d2⟩
    · exact absurd d c
    · rw [if_pos d1, if_pos d2, if_pos d3]
      unfold FX12_isDirect_57 FX12_isDirect_87
      rw [if_neg (by rw [d1]; decide), X 1 0 (Or.inl (by decide))]
      decide
    · rw [if_neg (by rw [d1]; decide)]
      unfold FX12_isDirect_56 FX12_isDirect_57
      rw [if_pos d1, if_pos d2, X 0 1 (Or.inr (by decide))]
      decide
theorem of_direct {g : ph_H} {a b : Int32} (n : ¬ FX12_isDirect a b g = 0) : D3 g a b ∨ ¬ FX12_isWaking a b g = 0 := by
  apply Classical.byContradiction
  intro w
  have w1 : ¬ D3 g a b := fun x => w (Or.inl x)
  have w2 : FX12_isWaking a b g = 0 := Classical.byContradiction (fun x => w (Or.inr x))
  apply n
  have Y : FX12_isDirect_88 a b 0 0 g = 0 := by
    unfold FX12_isDirect_88
    rw [if_pos rfl, if_pos rfl, if_pos w2]
  have Z : FX12_isDirect_57 a b 0 g = 0 := by
    unfold FX12_isDirect_57 FX12_isDirect_87
    by_cases c1 : g 34 a.toNatClampNeg = 4
    · rw [if_pos c1, if_neg (fun c2 => w1 (Or.inr (Or.inr ⟨c1, c2⟩)))]
      exact Y
    · rw [if_neg c1]
      exact Y
  unfold FX12_isDirect FX12_isDirect_56
  rw [if_neg (fun c => w1 (Or.inl c))]
  by_cases c1 : g 34 a.toNatClampNeg = 2
  · rw [if_pos c1]
    by_cases c2 : g 34 b.toNatClampNeg = 1
    · rw [if_pos c2, if_neg (fun c3 => w1 (Or.inr (Or.inl ⟨c1, c2, c3⟩)))]
      exact Z
    · rw [if_neg c2]
      exact Z
  · rw [if_neg c1]
    exact Z
/-- behind a WORD its THREAD leaves the GATE before another takes it -/
theorem word_left {g : ph_H} {Gs : Nat → ph_H} {n : Nat} (S : SQ g Gs n) (n3 : n ≤ 300) {s : Nat} (s1 : 1 ≤ s) (m3 : g 34 s = 3) : ∀ u : Nat, s ≤ u → u ≤ n → ((Gs u 17 (g 35 s).toNatClampNeg = g 29 s ∧ (g 35 s).toInt < (Gs u 0 18).toInt) ∨ ∃ v, s < v ∧ v ≤ u ∧ g 34 v = 2 ∧ g 35 v = g 35 s ∧ g 29 v = g 29 s) := by
  intro u
  induction u with
  | zero => intro h; omega
  | succ u ih =>
    intro h1 h2
    obtain ⟨ht, _, _, mk⟩ := S.2.1 u (by omega)
    obtain ⟨⟨zz, II⟩, -, -⟩ := S.1 u (by omega)
    obtain ⟨⟨zz2, II2⟩, -, -⟩ := S.1 (u + 1) (by omega)
    have t18 := th_nn II
    have t18' := th_nn II2
    obtain ⟨-, k18, M⟩ := mk
    have k1 : (1 : Int32).toInt = 1 := by decide
    have mono : (Gs u 0 18).toInt ≤ (Gs (u + 1) 0 18).toInt := by
      rcases k18 with e | e
      · rw [e]
        exact Int.le_refl _
      · rw [e, ti_add (by omega) (by omega), k1]
        omega
    by_cases c : s = u + 1
    · rw [← c] at M mono ⊢
      rcases M with ⟨e, _⟩ | ⟨e, _⟩ | ⟨_, ⟨o0, o1⟩, o2, o3⟩ | ⟨e, _⟩ | ⟨e, _⟩
      · rw [m3] at e
        exact absurd e (by decide)
      · rw [m3] at e
        exact absurd e (by decide)
      · left
        rw [o3, o2]
        exact ⟨rfl, by omega⟩
      · rw [m3] at e
        exact absurd e (by decide)
      · rw [m3] at e
        exact absurd e (by decide)
    · rcases ih (by omega) (by omega) with ⟨w1, w2⟩ | ⟨v, v1, v2, v3⟩
      · have A0 : 0 ≤ (g 29 s).toInt := by
          obtain ⟨p, rfl⟩ : ∃ p, s = p + 1 := ⟨s - 1, by omega⟩
          have f := (S.2.1 p (by omega)).1
          exact f.1
        have o0 : 0 ≤ (g 35 s).toInt := by
          obtain ⟨p, rfl⟩ : ∃ p, s = p + 1 := ⟨s - 1, by omega⟩
          obtain ⟨-, -, -, mk'⟩ := S.2.1 p (by omega)
          rcases mk'.2.2 with ⟨e, _⟩ | ⟨e, _⟩ | ⟨_, x, _⟩ | ⟨e, _⟩ | ⟨e, _⟩
          · rw [m3] at e
            exact absurd e (by decide)
          · rw [m3] at e
            exact absurd e (by decide)
          · exact x.1
          · rw [m3] at e
            exact absurd e (by decide)
          · rw [m3] at e
            exact absurd e (by decide)
        have on : ((g 35 s).toNatClampNeg : Int) = (g 35 s).toInt := by
          rw [← Int32.toNat_toInt]
          omega
        rcases M with ⟨e, o1, o2, o3⟩ | ⟨e, o1, o2, o3⟩ | ⟨e, o1, o2, o3⟩ | ⟨e, o1, o3⟩ | ⟨e, o3⟩
        · left
          by_cases d : (g 35 s).toNatClampNeg = (g 35 (u + 1)).toNatClampNeg
          · rw [← d, w1, Int32.lt_iff_toInt_lt] at o2
            have z0 : (0 : Int32).toInt = 0 := by decide
            omega
          · rw [o3, if_neg d]
            exact ⟨w1, by omega⟩
        · by_cases d : (g 35 s).toNatClampNeg = (g 35 (u + 1)).toNatClampNeg
          · right
            refine ⟨u + 1, by omega, Nat.le_refl _, e, ?_, ?_⟩
            · have : ((g 35 (u + 1)).toNatClampNeg : Int) = (g 35 (u + 1)).toInt := by
                rw [← Int32.toNat_toInt]
                omega
              exact tI (by omega)
            · rw [← o2, ← d]
              exact w1
          · left
            rw [o3, if_neg d]
            exact ⟨w1, by omega⟩
        · left
          rw [o3]
          exact ⟨w1, by omega⟩
        · left
          rw [o3 _ (by omega)]
          exact ⟨w1, by omega⟩
        · left
          rw [o3 _ (by omega)]
          exact ⟨w1, by omega⟩
      · exact Or.inr ⟨v, v1, by omega, v3⟩
end MG_48_x60H3
section MG_48_x61H4
/-! ORDER: WORDS need no line of their own -/
theorem ofN {v : Nat} (h : v ≤ 1000) : (Int32.ofNat v).toNatClampNeg = v ∧ (Int32.ofNat v).toInt = v := by
  have e : (Int32.ofNat v).toInt = v := by
    rw [Int32.toInt_ofNat']
    exact bm_in (by omega) (by omega)
  refine ⟨?_, e⟩
  have : ((Int32.ofNat v).toNatClampNeg : Int) = v := by
    rw [← Int32.toNat_toInt]
    omega
  omega
theorem Dr_of {g : ph_H} {a b : Int32} (h1 : 1 ≤ a.toInt) (h2 : a.toInt < b.toInt) (h3 : b.toInt ≤ (g 0 38).toInt) (d : D3 g a b) : Dr g a b := ⟨h1, h2, h3, direct_of d⟩
theorem TC3 {g : ph_H} {Gs : Nat → ph_H} (S : SQ g Gs (g 0 38).toNatClampNeg) (f38 : iv 0 300 (g 0 38)) {u t : Int32} (x : TCr g u t) : ∃ s, 1 ≤ s.toInt ∧ s.toInt < t.toInt ∧ D3 g s t ∧ (u = s ∨ TCr g u s) := by
  have n38 := iv_nat f38 rfl
  unfold iv at f38
  obtain ⟨s, ⟨d1, d2, d3, d4⟩, e⟩ := TC_dec x
  rcases of_direct d4 with w | w
  · exact ⟨s, d1, d2, w, e⟩
  · obtain ⟨m1, m2, m3⟩ := wk_marks w
    have sn : (s.toNatClampNeg : Int) = s.toInt := by
      rw [← Int32.toNat_toInt]
      omega
    have tn : (t.toNatClampNeg : Int) = t.toInt := by
      rw [← Int32.toNat_toInt]
      omega
    obtain ⟨p, ep⟩ : ∃ p, t.toNatClampNeg = p + 1 := ⟨t.toNatClampNeg - 1, by omega⟩
    have M := (S.2.1 p (by omega)).2.2.2.2.2
    rw [← ep] at M
    have A0 : 0 ≤ (g 29 s.toNatClampNeg).toInt := by
      obtain ⟨p', ep'⟩ : ∃ p', s.toNatClampNeg = p' + 1 := ⟨s.toNatClampNeg - 1, by omega⟩
      rw [ep']
      exact ((S.2.1 p' (by omega)).1).1
    have free : Gs p 17 (g 35 t.toNatClampNeg).toNatClampNeg < 0 := by
      rcases M with ⟨_, _, q, _⟩ | ⟨q, _⟩ | ⟨q, _⟩ | ⟨q, _⟩ | ⟨q, _⟩
      · exact q
      all_goals (rw [m2] at q; exact absurd q (by decide))
    rcases word_left S (by omega) (s := s.toNatClampNeg) (by omega) m1 p (by omega) (by omega) with ⟨w1, _⟩ | ⟨v, v1, v2, v3, v4, v5⟩
    · exfalso
      rw [← m3, w1, Int32.lt_iff_toInt_lt] at free
      have z0 : (0 : Int32).toInt = 0 := by decide
      omega
    · obtain ⟨en, ei⟩ := ofN (v := v) (by omega)
      refine ⟨Int32.ofNat v, by omega, by omega, Or.inr (Or.inl ⟨by rw [en]; exact v3, m2, by rw [en, v4]; exact m3⟩), Or.inr ?_⟩
      have sv : TCr g s (Int32.ofNat v) := TC_D (Dr_of d1 (by omega) (by omega) (Or.inl (by rw [en]; exact v5.symm)))
      rcases e with e | e
      · rw [e]
        exact sv
      · exact TC_tr e sv
theorem TC_of {g : ph_H} {u s t : Int32} (h1 : 1 ≤ s.toInt) (h2 : s.toInt < t.toInt) (h3 : t.toInt ≤ (g 0 38).toInt) (d : D3 g s t) (e : u = s ∨ TCr g u s) : TCr g u t := by
  have st := TC_D (Dr_of h1 h2 h3 d)
  rcases e with e | e
  · rw [e]
    exact st
  · exact TC_tr e st
/-! the reference's table -/
theorem ix39 {s t : Int32} (fs : iv 0 300 s) (ft : iv 0 300 t) : (301 * s + t).toNatClampNeg = 301 * s.toNatClampNeg + t.toNatClampNeg := by
  have k : (301 : Int32).toInt = 301 := by decide
  have sn := iv_nat fs rfl
  have tn := iv_nat ft rfl
  unfold iv at fs ft
  have e1 : (301 * s).toInt = 301 * s.toInt := by rw [ti_mul (by rw [k]; omega) (by rw [k]; omega), k]
  have e2 : (301 * s + t).toInt = 301 * s.toInt + t.toInt := by rw [ti_add (by omega) (by omega), e1]
  have e3 : ((301 * s + t).toNatClampNeg : Int) = 301 * s.toInt + t.toInt := by
    rw [← Int32.toNat_toInt]
    omega
  omega
abbrev M39 (h : ph_H) (s t : Int32) : Int32 := h 39 (301 * s.toNatClampNeg + t.toNatClampNeg)
theorem M39_hs {h : ph_H} {s t s' t' v : Int32} (fs : iv 0 300 s) (ft : iv 0 300 t) (fs' : iv 0 300 s') (ft' : iv 0 300 t') : M39 (hs h 39 (301 * s + t).toNatClampNeg v) s' t' = if s' = s ∧ t' = t then v else M39 h s' t' := by
  rw [ix39 fs ft]
  have sn := iv_nat fs rfl
  have tn := iv_nat ft rfl
  have sn' := iv_nat fs' rfl
  have tn' := iv_nat ft' rfl
  unfold iv at fs ft fs' ft'
  by_cases c : s' = s ∧ t' = t
  · rw [if_pos c, c.1, c.2]
    exact hs_self _ _ _ _
  · rw [if_neg c]
    refine hs_o (fun e => c ?_)
    have e2 := e.2
    exact ⟨tI (by omega), tI (by omega)⟩
def K39 (h h' : ph_H) : Prop := ∀ k i, ¬ k = 39 → h' k i = h k i
theorem K39_hs {h h' : ph_H} {i : Nat} {v : Int32} (K : K39 h h') : K39 h (hs h' 39 i v) := fun k j n => by
  rw [hs_o (fun e => n e.1)]
  exact K k j n
theorem K39_r (h : ph_H) : K39 h h := fun _ _ _ => rfl
theorem nar0 : vp_nar .boolean 0 = 0 := by decide
theorem nar1 : vp_nar .boolean 1 = 1 := by decide
section
variable {L15 : Int32 → ph_H → ph_H}
/-- a column is cleared -/
theorem fa25 : ∀ (q : Nat) (t x : Int32) (h : ph_H), iv 1 300 t → 1 ≤ x.toInt → x.toInt ≤ t.toInt → t.toInt - x.toInt < (q : Int) → ∃ h', FX12_findAhead_25 L15 q t x h = FX12_findAhead_53 L15 2000 t (t - 1) h' ∧ K39 h h' ∧ (∀ s t' : Int32, iv 0 300 s → iv 0 300 t' → M39 h' s t' = if t' = t ∧ x.toInt ≤ s.toInt ∧ s.toInt < t.toInt then 0 else M39 h s t')
  | 0, t, x, h, ft, x1, xt, m => by omega
  | q + 1, t, x, h, ft, x1, xt, m => by
    have k1 : (1 : Int32).toInt = 1 := by decide
    have ft' := ft
    unfold iv at ft'
    unfold FX12_findAhead_25
    by_cases c : t ≤ x
    · rw [if_pos c]
      rw [Int32.le_iff_toInt_le] at c
      exact ⟨h, rfl, K39_r h, fun s t' fs f' => by rw [if_neg (fun w => by omega)]⟩
    · rw [if_neg c]
      rw [Int32.le_iff_toInt_le] at c
      have e1 : (x + 1).toInt = x.toInt + 1 := by rw [ti_add (by omega) (by omega), k1]
      obtain ⟨h', a1, a2, a3⟩ := fa25 q t (x + 1) (hs h 39 (301 * x + t).toNatClampNeg (vp_nar .boolean 0)) ft (by omega) (by omega) (by omega)
      refine ⟨h', a1, fun k j n => by rw [a2 k j n, hs_o (fun e => n e.1)], fun s t' fs f' => ?_⟩
      rw [a3 s t' fs f', M39_hs (s := x) (t := t) ⟨by omega, by omega⟩ ⟨by omega, by omega⟩ fs f', nar0]
      by_cases d : t' = t ∧ x.toInt ≤ s.toInt ∧ s.toInt < t.toInt
      · rw [if_pos d]
        by_cases e : s = x ∧ t' = t
        · rw [if_pos e]
          split <;> rfl
        · rw [if_neg e, if_pos ⟨d.1, by
            have : ¬ s.toInt = x.toInt := fun w => e ⟨tI w, d.1⟩
            omega, d.2.2⟩]
      · rw [if_neg d, if_neg (fun w => d ⟨w.1, by omega, w.2.2⟩), if_neg (fun w => d ⟨w.2, by rw [w.1]; exact Int.le_refl _, by rw [w.1]; omega⟩)]
theorem fa96 {L53 : Int32 → Int32 → ph_H → ph_H} : ∀ (q : Nat) (t x y : Int32) (h : ph_H), iv 1 300 t → iv 1 300 x → x.toInt < t.toInt → 1 ≤ y.toInt → y.toInt ≤ x.toInt → x.toInt - y.toInt < (q : Int) → ∃ h', FX12_findAhead_96 L15 L53 q t x y h = L53 t (x + -1) h' ∧ K39 h h' ∧ (∀ s t' : Int32, iv 0 300 s → iv 0 300 t' → (¬ M39 h' s t' = 0 ↔ (¬ M39 h s t' = 0 ∨ (t' = t ∧ y.toInt ≤ s.toInt ∧ s.toInt < x.toInt ∧ ¬ M39 h s x = 0))))
  | 0, t, x, y, h, ft, fx, xt, y1, yx, m => by omega
  | q + 1, t, x, y, h, ft, fx, xt, y1, yx, m => by
    have k1 : (1 : Int32).toInt = 1 := by decide
    have ft' := ft
    have fx' := fx
    unfold iv at ft' fx'
    have fy0 : iv 0 300 y := ⟨by omega, by omega⟩
    have ft0 : iv 0 300 t := ⟨by omega, by omega⟩
    have fx0 : iv 0 300 x := ⟨by omega, by omega⟩
    unfold FX12_findAhead_96 FX12_findAhead_154 FX12_findAhead_142 FX12_findAhead_147
    by_cases c : x ≤ y
    · rw [if_pos c]
      rw [Int32.le_iff_toInt_le] at c
      exact ⟨h, rfl, K39_r h, fun s t' fs f' => ⟨Or.inl, fun w => w.elim id (fun w => by omega)⟩⟩
    · rw [if_neg c]
      rw [Int32.le_iff_toInt_le] at c
      have e1 : (y + 1).toInt = y.toInt + 1 := by rw [ti_add (by omega) (by omega), k1]
      have ntx : ¬ x = t := fun w => by rw [w] at xt; omega
      have ONE' : ∀ v : Int32, (¬ v = 0 ↔ (¬ M39 h y t = 0 ∨ ¬ M39 h y x = 0)) → ∃ h', FX12_findAhead_96 L15 L53 q t x (y + 1) (hs h 39 (301 * y + t).toNatClampNeg v) = L53 t (x + -1) h' ∧ K39 h h' ∧ (∀ s t' : Int32, iv 0 300 s → iv 0 300 t' → (¬ M39 h' s t' = 0 ↔ (¬ M39 h s t' = 0 ∨ (t' = t ∧ y.toInt ≤ s.toInt ∧ s.toInt < x.toInt ∧ ¬ M39 h s x = 0)))) := fun v hv => by
        obtain ⟨h', a1, a2, a3⟩ := fa96 q t x (y + 1) (hs h 39 (301 * y + t).toNatClampNeg v) ft fx xt (by omega) (by omega) (by omega)
        refine ⟨h', a1, fun k j n => by rw [a2 k j n, hs_o (fun e => n e.1)], fun s t' fs f' => ?_⟩
        rw [a3 s t' fs f', M39_hs fy0 ft0 fs f', M39_hs fy0 ft0 fs fx0, if_neg (show ¬ (s = y ∧ x = t) from fun w => ntx w.2)]
        by_cases d : s = y ∧ t' = t
        · rw [if_pos d, d.1, d.2, hv]
          constructor
          · rintro ((w | w) | w)
            · exact Or.inl w
            · exact Or.inr ⟨rfl, Int.le_refl _, by omega, w⟩
            · omega
          · rintro (w | w)
            · exact Or.inl (Or.inl w)
            · exact Or.inl (Or.inr w.2.2.2)
        · rw [if_neg d]
          constructor
          · rintro (w | w)
            · exact Or.inl w
            · exact Or.inr ⟨w.1, by omega, w.2.2⟩
          · rintro (w | w)
            · exact Or.inl w
            · refine Or.inr ⟨w.1, ?_, w.2.2⟩
              have : ¬ s.toInt = y.toInt := fun u => d ⟨tI u, w.1⟩
              omega
      rw [ix39 fy0 ft0, ix39 fy0 fx0]
      rw [← ix39 fy0 ft0]
      by_cases d : M39 h y t = 0
      · have d' : h 39 (301 * y + t).toNatClampNeg = 0 := by rw [ix39 fy0 ft0]; exact d
        rw [if_pos d']
        by_cases e : M39 h y x = 0
        · have e' : h 39 (301 * y.toNatClampNeg + x.toNatClampNeg) = 0 := e
          rw [if_pos e', nar0]
          exact ONE' 0 ⟨fun w => absurd rfl w, fun w => w.elim (fun w => absurd d w) (fun w => absurd e w)⟩
        · have e' : ¬ h 39 (301 * y.toNatClampNeg + x.toNatClampNeg) = 0 := e
          rw [if_neg e', nar1]
          exact ONE' 1 ⟨fun _ => Or.inr e, fun _ => by decide⟩
      · have d' : ¬ h 39 (301 * y + t).toNatClampNeg = 0 := by rw [ix39 fy0 ft0]; exact d
        rw [if_neg d', nar1]
        exact ONE' 1 ⟨fun _ => Or.inl d, fun _ => by decide⟩
end
end MG_48_x61H4
section MG_48_x62H5
/-! ORDER: the reference's table is the relation -/
def SR4 (g h : ph_H) : Prop := (∀ i, h 29 i = g 29 i) ∧ (∀ i, h 31 i = g 31 i) ∧ (∀ i, h 34 i = g 34 i) ∧ (∀ i, h 35 i = g 35 i)
theorem w105_c {g h : ph_H} (S : SR4 g h) : ∀ (q : Nat) (a b c : Int32), FX12_isWaking_105 q a b c h = FX12_isWaking_105 q a b c g
  | 0, a, b, c => rfl
  | q + 1, a, b, c => by
    unfold FX12_isWaking_105 FX12_isWaking_147 FX12_isWaking_143 FX12_isWaking_148
    simp only [S.2.2.1, S.2.2.2, w105_c S q]
theorem w53_c {g h : ph_H} (S : SR4 g h) : ∀ (q : Nat) (a b c d : Int32), FX12_isWaking_53 q a b c d h = FX12_isWaking_53 q a b c d g
  | 0, a, b, c, d => rfl
  | q + 1, a, b, c, d => by
    unfold FX12_isWaking_53 FX12_isWaking_98 FX12_isWaking_81
    simp only [S.1, w105_c S, w53_c S q]
theorem dir_c {g h : ph_H} (S : SR4 g h) (a b : Int32) : FX12_isDirect a b h = FX12_isDirect a b g := by
  unfold FX12_isDirect FX12_isDirect_56 FX12_isDirect_57 FX12_isDirect_87 FX12_isDirect_88 FX12_isDirect_108 FX12_isWaking
  simp only [S.1, S.2.1, S.2.2.1, S.2.2.2, w53_c S]
def OLD (g h : ph_H) (t : Int) : Prop := ∀ u t' : Int32, 1 ≤ u.toInt → u.toInt < t'.toInt → t'.toInt < t → (¬ M39 h u t' = 0 ↔ TCr g u t')
theorem SR4_K {g h h' : ph_H} (S : SR4 g h) (K : K39 h h') : SR4 g h' := ⟨fun i => (K _ _ (by decide)).trans (S.1 i), fun i => (K _ _ (by decide)).trans (S.2.1 i), fun i => (K _ _ (by decide)).trans (S.2.2.1 i), fun i => (K _ _ (by decide)).trans (S.2.2.2 i)⟩
theorem fa53 {L15 : Int32 → ph_H → ph_H} {g : ph_H} (f38 : iv 0 300 (g 0 38)) : ∀ (q : Nat) (t x : Int32) (h : ph_H), SR4 g h → iv 1 300 t → t.toInt ≤ (g 0 38).toInt → 0 ≤ x.toInt → x.toInt < t.toInt → x.toInt < (q : Int) → OLD g h t.toInt → (∀ u : Int32, 1 ≤ u.toInt → u.toInt < t.toInt → (¬ M39 h u t = 0 ↔ ∃ s, x.toInt < s.toInt ∧ s.toInt < t.toInt ∧ Dr g s t ∧ (u = s ∨ TCr g u s))) → ∃ h', FX12_findAhead_53 L15 q t x h = L15 (t + 1) h' ∧ K39 h h' ∧ OLD g h' (t.toInt + 1)
  | 0, t, x, h, S, ft, tn, x0, xt, m, O, Cc => by omega
  | q + 1, t, x, h, S, ft, tn, x0, xt, m, O, Cc => by
    have k0 : (0 : Int32).toInt = 0 := by decide
    have k1 : (1 : Int32).toInt = 1 := by decide
    have km : (-1 : Int32).toInt = -1 := by decide
    have ft' := ft
    unfold iv at ft' f38
    unfold FX12_findAhead_53 FX12_findAhead_154
    by_cases c : x ≤ 0
    · rw [if_pos c]
      rw [Int32.le_iff_toInt_le, k0] at c
      refine ⟨h, rfl, K39_r h, fun u t' u1 ut t1 => ?_⟩
      by_cases d : t'.toInt < t.toInt
      · exact O u t' u1 ut d
      · have et : t' = t := tI (by omega)
        rw [et] at ut ⊢
        rw [Cc u u1 ut]
        constructor
        · rintro ⟨s, _, _, ds, e⟩
          rcases e with e | e
          · rw [e]
            exact TC_D ds
          · exact TC_tr e (TC_D ds)
        · intro w
          obtain ⟨s, ds, e⟩ := TC_dec w
          exact ⟨s, by have := ds.1; omega, ds.2.1, ds, e⟩
    · rw [if_neg c]
      rw [Int32.le_iff_toInt_le, k0] at c
      have fx0 : iv 0 300 x := ⟨by omega, by omega⟩
      have ft0 : iv 0 300 t := ⟨by omega, by omega⟩
      have ex : (x + -1).toInt = x.toInt - 1 := by rw [ti_add (by rw [km]; omega) (by rw [km]; omega), km]; omega
      rw [ix39 fx0 ft0, dir_c S]
      by_cases d : M39 h x t = 0
      · have d' : h 39 (301 * x.toNatClampNeg + t.toNatClampNeg) = 0 := d
        rw [if_pos d']
        by_cases e : FX12_isDirect x t g = 0
        · rw [if_pos e]
          refine fa53 (by unfold iv; omega) q t (x + -1) h S ft tn (by omega) (by omega) (by omega) O (fun u u1 ut => ?_)
          rw [Cc u u1 ut]
          constructor
          · rintro ⟨s, s1, s2, s3⟩
            exact ⟨s, by omega, s2, s3⟩
          · rintro ⟨s, s1, s2, s3, s4⟩
            refine ⟨s, ?_, s2, s3, s4⟩
            have : ¬ s.toInt = x.toInt := fun w => s3.2.2.2 (by rw [tI w]; exact e)
            omega
        · rw [if_neg e]
          have dx : Dr g x t := ⟨by omega, xt, tn, e⟩
          rw [← ix39 fx0 ft0, nar1]
          have ntx : ¬ x = t := fun w => by rw [w] at xt; omega
          obtain ⟨h', a1, a2, a3⟩ := fa96 (L15 := L15) (L53 := FX12_findAhead_53 L15 q) 2000 t x 1 (hs h 39 (301 * x + t).toNatClampNeg 1) ft ⟨by omega, by omega⟩ xt (by rw [k1]; exact Int.le_refl _) (by rw [k1]; omega) (by rw [k1]; omega)
          rw [a1]
          have K2 : K39 h h' := fun k j n => by rw [a2 k j n, hs_o (fun w => n w.1)]
          have O2 : OLD g h' t.toInt := fun u t' u1 ut t1 => by
            rw [a3 u t' ⟨by omega, by omega⟩ ⟨by omega, by omega⟩, M39_hs fx0 ft0 ⟨by omega, by omega⟩ ⟨by omega, by omega⟩, if_neg (fun w => by rw [w.2] at t1; omega)]
            rw [← O u t' u1 ut t1]
            exact ⟨fun w => w.elim id (fun w => by rw [w.1] at t1; omega), Or.inl⟩
          obtain ⟨h2, b1, b2, b3⟩ := fa53 (L15 := L15) (g := g) (by unfold iv; omega) q t (x + -1) h' (SR4_K S K2) ft tn (by omega) (by omega) (by omega) O2 (fun u u1 ut => by
            have fu : iv 0 300 u := ⟨by omega, by omega⟩
            rw [a3 u t fu ft0, M39_hs fx0 ft0 fu ft0, M39_hs fx0 ft0 fu fx0, if_neg (show ¬ (u = x ∧ x = t) from fun w => ntx w.2)]
            constructor
            · rintro (w | ⟨_, w1, w2, w3⟩)
              · by_cases f : u = x ∧ t = t
                · exact ⟨x, by omega, xt, dx, Or.inl f.1⟩
                · rw [if_neg f] at w
                  obtain ⟨s, s1, s2, s3⟩ := (Cc u u1 ut).mp w
                  exact ⟨s, by omega, s2, s3⟩
              · have := (O u x u1 w2 xt).mp w3
                exact ⟨x, by omega, xt, dx, Or.inr this⟩
            · rintro ⟨s, s1, s2, s3, s4⟩
              by_cases f : s.toInt = x.toInt
              · have es : s = x := tI f
                rw [es] at s4
                rcases s4 with s4 | s4
                · left
                  rw [if_pos ⟨s4, rfl⟩]
                  decide
                · right
                  have l := TC_lt s4
                  exact ⟨rfl, by rw [k1]; exact u1, l.2.1, (O u x u1 l.2.1 xt).mpr s4⟩
              · left
                by_cases f2 : u = x ∧ t = t
                · rw [if_pos f2]
                  decide
                · rw [if_neg f2]
                  exact (Cc u u1 ut).mpr ⟨s, by omega, s2, s3, s4⟩)
          exact ⟨h2, b1, fun k j n => (b2 k j n).trans (K2 k j n), b3⟩
      · have d' : ¬ h 39 (301 * x.toNatClampNeg + t.toNatClampNeg) = 0 := d
        rw [if_neg d']
        obtain ⟨s0, p1, p2, p3, p4⟩ := (Cc x (by omega) xt).mp d
        refine fa53 (by unfold iv; omega) q t (x + -1) h S ft tn (by omega) (by omega) (by omega) O (fun u u1 ut => ?_)
        rw [Cc u u1 ut]
        constructor
        · rintro ⟨s, s1, s2, s3⟩
          exact ⟨s, by omega, s2, s3⟩
        · rintro ⟨s, s1, s2, s3, s4⟩
          by_cases f : s.toInt = x.toInt
          · have es : s = x := tI f
            rw [es] at s4
            refine ⟨s0, p1, p2, p3, Or.inr ?_⟩
            have xs : TCr g x s0 := p4.elim (fun w => by rw [w] at p1; omega) id
            rcases s4 with s4 | s4
            · rw [s4]
              exact xs
            · exact TC_tr s4 xs
          · exact ⟨s, by omega, s2, s3, s4⟩
theorem fa15 {g : ph_H} (f38 : iv 0 300 (g 0 38)) : ∀ (q : Nat) (t : Int32) (h : ph_H), SR4 g h → h 0 38 = g 0 38 → 1 ≤ t.toInt → t.toInt ≤ (g 0 38).toInt + 1 → (g 0 38).toInt + 1 - t.toInt < (q : Int) → OLD g h t.toInt → K39 h (FX12_findAhead_15 q t h) ∧ OLD g (FX12_findAhead_15 q t h) ((g 0 38).toInt + 1)
  | 0, t, h, S, e, t1, tn, m, O => by omega
  | q + 1, t, h, S, e, t1, tn, m, O => by
    have k1 : (1 : Int32).toInt = 1 := by decide
    have f38' := f38
    unfold iv at f38'
    unfold FX12_findAhead_15
    rw [e]
    by_cases c : g 0 38 < t
    · rw [if_pos c]
      rw [Int32.lt_iff_toInt_lt] at c
      refine ⟨K39_r h, ?_⟩
      have : t.toInt = (g 0 38).toInt + 1 := by omega
      rw [← this]
      exact O
    · rw [if_neg c]
      rw [Int32.lt_iff_toInt_lt] at c
      have ft : iv 1 300 t := ⟨t1, by omega⟩
      have e1 : (t - 1).toInt = t.toInt - 1 := by rw [Int32.toInt_sub, k1, bm_in (by omega) (by omega)]
      have e2 : (t + 1).toInt = t.toInt + 1 := by rw [ti_add (by omega) (by omega), k1]
      obtain ⟨h1, a1, a2, a3⟩ := fa25 (L15 := FX12_findAhead_15 q) 2000 t 1 h ft (by rw [k1]; exact Int.le_refl _) (by rw [k1]; exact t1) (by rw [k1]; omega)
      rw [a1]
      have O1 : OLD g h1 t.toInt := fun u t' u1 ut t2 => by
        rw [a3 u t' ⟨by omega, by omega⟩ ⟨by omega, by omega⟩, if_neg (fun w => by rw [w.1] at t2; omega)]
        exact O u t' u1 ut t2
      obtain ⟨h2, b1, b2, b3⟩ := fa53 (L15 := FX12_findAhead_15 q) f38 2000 t (t - 1) h1 (SR4_K S a2) ft (by omega) (by omega) (by omega) (by omega) O1 (fun u u1 ut => by
        rw [a3 u t ⟨by omega, by omega⟩ ⟨by omega, by omega⟩, if_pos ⟨rfl, by rw [k1]; exact u1, ut⟩]
        constructor
        · intro w
          exact absurd rfl w
        · rintro ⟨s, s1, s2, _⟩
          omega)
      rw [b1]
      have K2 : K39 h h2 := fun k j n => (b2 k j n).trans (a2 k j n)
      obtain ⟨c1, c2⟩ := fa15 f38 q (t + 1) h2 (SR4_K S K2) ((K2 0 38 (by decide)).trans e) (by omega) (by omega) (by omega) (by rw [e2]; exact b3)
      exact ⟨fun k j n => (c1 k j n).trans (K2 k j n), c2⟩
end MG_48_x62H5
section MG_48_x63H6
/-! ORDER: the class's clocks -/
def mx (x y : Int32) : Int32 := if x < y then y else x
theorem mx_le {s x y : Int32} : s.toInt ≤ (mx x y).toInt ↔ (s.toInt ≤ x.toInt ∨ s.toInt ≤ y.toInt) := by
  unfold mx
  by_cases c : x < y
  · rw [if_pos c]
    rw [Int32.lt_iff_toInt_lt] at c
    omega
  · rw [if_neg c]
    rw [Int32.lt_iff_toInt_lt] at c
    omega
theorem mx_in {lo hi : Int} {x y : Int32} (hx : lo ≤ x.toInt ∧ x.toInt ≤ hi) (hy : lo ≤ y.toInt ∧ y.toInt ≤ hi) : lo ≤ (mx x y).toInt ∧ (mx x y).toInt ≤ hi := by
  unfold mx
  split
  · exact hy
  · exact hx
theorem join_50_49 {a b : Nat} (ha : a ≤ 11) (hb : b ≤ 11) {x1 x3 : Int32} (e1 : x1.toInt = 4 * a) (e3 : x3.toInt = 4 * b) : ∀ (q : Nat) (x : Int32) (h : ph_H), iv 0 4 x → 4 - x.toInt < (q : Int) → (∀ i : Nat, FX4_join_k50k49_3 q x1 x3 x h 49 i = if 4 * b + x.toInt ≤ i ∧ (i : Int) < 4 * b + 4 then mx (h 49 i) (h 50 (4 * a + (i - 4 * b))) else h 49 i) ∧ (∀ k i, ¬ k = 49 → FX4_join_k50k49_3 q x1 x3 x h k i = h k i)
  | 0, x, h, f, m => by unfold iv at f; omega
  | q + 1, x, h, f, m => by
    have k1 : (1 : Int32).toInt = 1 := by decide
    have k4 : (4 : Int32).toInt = 4 := by decide
    unfold iv at f
    unfold FX4_join_k50k49_3
    by_cases c : 4 ≤ x
    · rw [if_pos c]
      rw [Int32.le_iff_toInt_le, k4] at c
      exact ⟨fun i => by rw [if_neg (fun w => by omega)], fun _ _ _ => rfl⟩
    · rw [if_neg c]
      rw [Int32.le_iff_toInt_le, k4] at c
      have ex : (x + 1).toInt = x.toInt + 1 := by rw [ti_add (by omega) (by omega), k1]
      have i1 : (x1 + x).toInt = 4 * a + x.toInt := by rw [ti_add (by omega) (by omega), e1]
      have i3 : (x3 + x).toInt = 4 * b + x.toInt := by rw [ti_add (by omega) (by omega), e3]
      have n1 : ((x1 + x).toNatClampNeg : Int) = 4 * a + x.toInt := by
        rw [← Int32.toNat_toInt]
        omega
      have n3 : ((x3 + x).toNatClampNeg : Int) = 4 * b + x.toInt := by
        rw [← Int32.toNat_toInt]
        omega
      obtain ⟨p1, p2⟩ := join_50_49 ha hb e1 e3 q (x + 1) (hs h 49 (x3 + x).toNatClampNeg (if h 49 (x3 + x).toNatClampNeg < h 50 (x1 + x).toNatClampNeg then h 50 (x1 + x).toNatClampNeg else h 49 (x3 + x).toNatClampNeg)) (by unfold iv; omega) (by omega)
      refine ⟨fun i => ?_, fun k i n => ?_⟩
      · rw [p1 i]
        by_cases d : i = (x3 + x).toNatClampNeg
        · rw [if_neg (show ¬ (4 * (b : Int) + (x + 1).toInt ≤ (i : Int) ∧ (i : Int) < 4 * b + 4) from fun w => by omega), if_pos (show 4 * (b : Int) + x.toInt ≤ (i : Int) ∧ (i : Int) < 4 * b + 4 from ⟨by omega, by omega⟩), d, hs_self]
          have : (x1 + x).toNatClampNeg = 4 * a + ((x3 + x).toNatClampNeg - 4 * b) := by omega
          rw [← this]
          rfl
        · rw [hs_o (fun w => d w.2)]
          by_cases e : 4 * b + x.toInt ≤ i ∧ (i : Int) < 4 * b + 4
          · rw [if_pos e, if_pos ⟨by omega, e.2⟩, hs_o (fun w => absurd w.1 (by decide))]
          · rw [if_neg e, if_neg (fun w => e ⟨by omega, w.2⟩)]
      · rw [p2 k i n, hs_o (fun w => n w.1)]
theorem join_49_50 {a b : Nat} (ha : a ≤ 11) (hb : b ≤ 11) {x1 x3 : Int32} (e1 : x1.toInt = 4 * a) (e3 : x3.toInt = 4 * b) : ∀ (q : Nat) (x : Int32) (h : ph_H), iv 0 4 x → 4 - x.toInt < (q : Int) → (∀ i : Nat, FX4_join_k49k50_3 q x1 x3 x h 50 i = if 4 * b + x.toInt ≤ i ∧ (i : Int) < 4 * b + 4 then mx (h 50 i) (h 49 (4 * a + (i - 4 * b))) else h 50 i) ∧ (∀ k i, ¬ k = 50 → FX4_join_k49k50_3 q x1 x3 x h k i = h k i)
  | 0, x, h, f, m => by unfold iv at f; omega
  | q + 1, x, h, f, m => by
    have k1 : (1 : Int32).toInt = 1 := by decide
    have k4 : (4 : Int32).toInt = 4 := by decide
    unfold iv at f
    unfold FX4_join_k49k50_3
    by_cases c : 4 ≤ x
    · rw [if_pos c]
      rw [Int32.le_iff_toInt_le, k4] at c
      exact ⟨fun i => by rw [if_neg (fun w => by omega)], fun _ _ _ => rfl⟩
    · rw [if_neg c]
      rw [Int32.le_iff_toInt_le, k4] at c
      have ex : (x + 1).toInt = x.toInt + 1 := by rw [ti_add (by omega) (by omega), k1]
      have i1 : (x1 + x).toInt = 4 * a + x.toInt := by rw [ti_add (by omega) (by omega), e1]
      have i3 : (x3 + x).toInt = 4 * b + x.toInt := by rw [ti_add (by omega) (by omega), e3]
      have n1 : ((x1 + x).toNatClampNeg : Int) = 4 * a + x.toInt := by
        rw [← Int32.toNat_toInt]
        omega
      have n3 : ((x3 + x).toNatClampNeg : Int) = 4 * b + x.toInt := by
        rw [← Int32.toNat_toInt]
        omega
      obtain ⟨p1, p2⟩ := join_49_50 ha hb e1 e3 q (x + 1) (hs h 50 (x3 + x).toNatClampNeg (if h 50 (x3 + x).toNatClampNeg < h 49 (x1 + x).toNatClampNeg then h 49 (x1 + x).toNatClampNeg else h 50 (x3 + x).toNatClampNeg)) (by unfold iv; omega) (by omega)
      refine ⟨fun i => ?_, fun k i n => ?_⟩
      · rw [p1 i]
        by_cases d : i = (x3 + x).toNatClampNeg
        · rw [if_neg (show ¬ (4 * (b : Int) + (x + 1).toInt ≤ (i : Int) ∧ (i : Int) < 4 * b + 4) from fun w => by omega), if_pos (show 4 * (b : Int) + x.toInt ≤ (i : Int) ∧ (i : Int) < 4 * b + 4 from ⟨by omega, by omega⟩), d, hs_self]
          have : (x1 + x).toNatClampNeg = 4 * a + ((x3 + x).toNatClampNeg - 4 * b) := by omega
          rw [← this]
          rfl
        · rw [hs_o (fun w => d w.2)]
          by_cases e : 4 * b + x.toInt ≤ i ∧ (i : Int) < 4 * b + 4
          · rw [if_pos e, if_pos ⟨by omega, e.2⟩, hs_o (fun w => absurd w.1 (by decide))]
          · rw [if_neg e, if_neg (fun w => e ⟨by omega, w.2⟩)]
      · rw [p2 k i n, hs_o (fun w => n w.1)]
theorem join_49_49 {a b : Nat} (ha : a ≤ 11) (hb : b ≤ 11) {x1 x3 : Int32} (e1 : x1.toInt = 4 * a) (e3 : x3.toInt = 4 * b) : ∀ (q : Nat) (x : Int32) (h : ph_H), iv 0 4 x → 4 - x.toInt < (q : Int) → (∀ i : Nat, FX4_join_k49k49_3 q x1 x3 x h 49 i = if 4 * b + x.toInt ≤ i ∧ (i : Int) < 4 * b + 4 then mx (h 49 i) (h 49 (4 * a + (i - 4 * b))) else h 49 i) ∧ (∀ k i, ¬ k = 49 → FX4_join_k49k49_3 q x1 x3 x h k i = h k i)
  | 0, x, h, f, m => by unfold iv at f; omega
  | q + 1, x, h, f, m => by
    have k1 : (1 : Int32).toInt = 1 := by decide
    have k4 : (4 : Int32).toInt = 4 := by decide
    unfold iv at f
    unfold FX4_join_k49k49_3
    by_cases c : 4 ≤ x
    · rw [if_pos c]
      rw [Int32.le_iff_toInt_le, k4] at c
      exact ⟨fun i => by rw [if_neg (fun w => by omega)], fun _ _ _ => rfl⟩
    · rw [if_neg c]
      rw [Int32.le_iff_toInt_le, k4] at c
      have ex : (x + 1).toInt = x.toInt + 1 := by rw [ti_add (by omega) (by omega), k1]
      have i1 : (x1 + x).toInt = 4 * a + x.toInt := by rw [ti_add (by omega) (by omega), e1]
      have i3 : (x3 + x).toInt = 4 * b + x.toInt := by rw [ti_add (by omega) (by omega), e3]
      have n1 : ((x1 + x).toNatClampNeg : Int) = 4 * a + x.toInt := by
        rw [← Int32.toNat_toInt]
        omega
      have n3 : ((x3 + x).toNatClampNeg : Int) = 4 * b + x.toInt := by
        rw [← Int32.toNat_toInt]
        omega
      obtain ⟨p1, p2⟩ := join_49_49 ha hb e1 e3 q (x + 1) (hs h 49 (x3 + x).toNatClampNeg (if h 49 (x3 + x).toNatClampNeg < h 49 (x1 + x).toNatClampNeg then h 49 (x1 + x).toNatClampNeg else h 49 (x3 + x).toNatClampNeg)) (by unfold iv; omega) (by omega)
      refine ⟨fun i => ?_, fun k i n => ?_⟩
      · rw [p1 i]
        by_cases d : i = (x3 + x).toNatClampNeg
        · rw [if_neg (show ¬ (4 * (b : Int) + (x + 1).toInt ≤ (i : Int) ∧ (i : Int) < 4 * b + 4) from fun w => by omega), if_pos (show 4 * (b : Int) + x.toInt ≤ (i : Int) ∧ (i : Int) < 4 * b + 4 from ⟨by omega, by omega⟩), d, hs_self]
          have : (x1 + x).toNatClampNeg = 4 * a + ((x3 + x).toNatClampNeg - 4 * b) := by omega
          rw [← this]
          rfl
        · rw [hs_o (fun w => d w.2)]
          by_cases e : 4 * b + x.toInt ≤ i ∧ (i : Int) < 4 * b + 4
          · rw [if_pos e, if_pos ⟨by omega, e.2⟩]
            by_cases z : 4 * a + (i - 4 * b) = (x3 + x).toNatClampNeg
            · exfalso
              omega
            · rw [hs_o (fun w => z w.2)]
          · rw [if_neg e, if_neg (fun w => e ⟨by omega, w.2⟩)]
      · rw [p2 k i n, hs_o (fun w => n w.1)]
end MG_48_x63H6
section MG_48_x64H7
/-! ORDER: what a step learns -/
theorem hc_gen {h : ph_H} {k0 k1 : Nat} {sp dp m : Int32} (i : Nat) : hc h k0 k1 sp dp m k1 i = if dp.toNatClampNeg ≤ i ∧ i < dp.toNatClampNeg + m.toNatClampNeg then h k0 (sp.toNatClampNeg + (i - dp.toNatClampNeg)) else h k1 i := by
  unfold hc
  rw [va_up_self]
  unfold va_cpy
  split <;> rfl
section
variable {h : ph_H} {t : Int32} {w o : Nat} {m : Int32}
def Uk (h : ph_H) (t : Int32) (w k : Nat) : Int32 := if k = w then t else h 49 (4 * w + k)
def Vk (h : ph_H) (t : Int32) (w o : Nat) (m : Int32) (k : Nat) : Int32 := if m = 1 then mx (Uk h t w k) (h 50 (4 * o + k)) else Uk h t w k
theorem learn_eq (et : iv 1 300 t) (e36 : (h 36 t.toNatClampNeg).toInt = w) (hw : w < 4) (e43 : h 43 t.toNatClampNeg = m) (e44 : m = 1 ∨ m = 2 ∨ m = 4 → (h 44 t.toNatClampNeg).toInt = o ∧ o < 12) (o4 : m = 4 → o < 4) : (∀ p k : Nat, p < 4 → k < 4 → FX4_learn t h 49 (4 * p + k) = if p = w then Vk h t w o m k else if m = 4 ∧ p = o then mx (h 49 (4 * p + k)) (Vk h t w o m k) else h 49 (4 * p + k)) ∧ (∀ p k : Nat, p < 12 → k < 4 → FX4_learn t h 50 (4 * p + k) = if m = 2 ∧ p = o then mx (h 50 (4 * p + k)) (Vk h t w o m k) else h 50 (4 * p + k)) ∧ (∀ i : Nat, FX4_learn t h 48 i = if 4 * t.toNatClampNeg ≤ i ∧ i < 4 * t.toNatClampNeg + 4 then Vk h t w o m (i - 4 * t.toNatClampNeg) else h 48 i) ∧ (∀ k i, ¬ k = 48 → ¬ k = 49 → ¬ k = 50 → FX4_learn t h k i = h k i) := by
  have k4 : (4 : Int32).toInt = 4 := by decide
  have n4 : (4 : Int32).toNatClampNeg = 4 := by decide
  have z0 : (0 : Int32).toInt = 0 := by decide
  have tn := iv_nat (lo := 1) (hi := 300) et rfl
  unfold iv at et
  have e4 : (h 36 t.toNatClampNeg * 4).toInt = 4 * w := by rw [ti_mul (by rw [k4, e36]; omega) (by rw [k4, e36]; omega), k4, e36]; omega
  have e4n : (h 36 t.toNatClampNeg * 4).toNatClampNeg = 4 * w := by
    have : ((h 36 t.toNatClampNeg * 4).toNatClampNeg : Int) = 4 * w := by
      rw [← Int32.toNat_toInt]
      omega
    omega
  have ew : (h 36 t.toNatClampNeg * 4 + h 36 t.toNatClampNeg).toNatClampNeg = 4 * w + w := by
    have a : (h 36 t.toNatClampNeg * 4 + h 36 t.toNatClampNeg).toInt = 4 * w + w := by rw [ti_add (by omega) (by omega), e4, e36]
    have : ((h 36 t.toNatClampNeg * 4 + h 36 t.toNatClampNeg).toNatClampNeg : Int) = 4 * w + w := by
      rw [← Int32.toNat_toInt]
      omega
    omega
  have t4 : (t * 4).toNatClampNeg = 4 * t.toNatClampNeg := by
    have a : (t * 4).toInt = 4 * t.toInt := by rw [ti_mul (by rw [k4]; omega) (by rw [k4]; omega), k4]; omega
    have : ((t * 4).toNatClampNeg : Int) = 4 * t.toInt := by
      rw [← Int32.toNat_toInt]
      omega
    omega
  have eo : m = 1 ∨ m = 2 ∨ m = 4 → (h 44 t.toNatClampNeg * 4).toInt = 4 * o := fun q => by
    obtain ⟨a, b⟩ := e44 q
    rw [ti_mul (by rw [k4, a]; omega) (by rw [k4, a]; omega), k4, a]
    omega
  have cp : ∀ G : ph_H, (∀ i : Nat, hc G 49 48 (h 36 t.toNatClampNeg * 4) (t * 4) 4 48 i = if 4 * t.toNatClampNeg ≤ i ∧ i < 4 * t.toNatClampNeg + 4 then G 49 (4 * w + (i - 4 * t.toNatClampNeg)) else G 48 i) := fun G i => by
    rw [hc_gen, e4n, t4, n4]
  have U1 : ∀ k, k < 4 → hs h 49 (4 * w + w) t 49 (4 * w + k) = Uk h t w k := fun k hk => by
    unfold Uk
    by_cases c : k = w
    · rw [if_pos c, c, hs_self]
    · rw [if_neg c, hs_o (fun e => c (by omega))]
  have U2 : ∀ p k, p < 4 → k < 4 → ¬ p = w → hs h 49 (4 * w + w) t 49 (4 * p + k) = h 49 (4 * p + k) := fun p k hp hk n => hs_o (fun e => n (by omega))
  have U3 : ∀ k i, ¬ k = 49 → hs h 49 (4 * w + w) t k i = h k i := fun k i n => hs_o (fun e => n e.1)
  unfold FX4_learn FX4_learn_67 FX4_learn_96 FX4_learn_125
  rw [e43, ew]
  by_cases m1 : m = 1
  · rw [if_pos m1]
    obtain ⟨j1, j2⟩ := join_50_49 (a := o) (b := w) (by have := (e44 (Or.inl m1)).2; omega) (by omega) (eo (Or.inl m1)) e4 2000 0 (hs h 49 (4 * w + w) t) ⟨by decide, by decide⟩ (by rw [z0]; decide)
    have J1 : ∀ k, k < 4 → FX4_join_k50k49 (h 44 t.toNatClampNeg * 4) (h 36 t.toNatClampNeg * 4) (hs h 49 (4 * w + w) t) 49 (4 * w + k) = Vk h t w o m k := fun k hk => by
      unfold FX4_join_k50k49
      rw [j1, if_pos ⟨by rw [z0]; omega, by omega⟩, U1 k hk, U3 50 _ (by decide)]
      have : 4 * o + (4 * w + k - 4 * w) = 4 * o + k := by omega
      rw [this]
      unfold Vk
      rw [if_pos m1]
    have J2 : ∀ p k, p < 4 → k < 4 → ¬ p = w → FX4_join_k50k49 (h 44 t.toNatClampNeg * 4) (h 36 t.toNatClampNeg * 4) (hs h 49 (4 * w + w) t) 49 (4 * p + k) = h 49 (4 * p + k) := fun p k hp hk n => by
      unfold FX4_join_k50k49
      rw [j1, if_neg (fun q => n (by omega)), U2 p k hp hk n]
    have J3 : ∀ k i, ¬ k = 49 → FX4_join_k50k49 (h 44 t.toNatClampNeg * 4) (h 36 t.toNatClampNeg * 4) (hs h 49 (4 * w + w) t) k i = h k i := fun k i n => by
      unfold FX4_join_k50k49
      rw [j2 k i n, U3 k i n]
    refine ⟨fun p k hp hk => ?_, fun p k hp hk => ?_, fun i => ?_, fun k i a b c => ?_⟩
    · rw [hc_o (by decide)]
      by_cases c : p = w
      · rw [if_pos c, c, J1 k hk]
      · rw [if_neg c, if_neg (fun q => absurd (m1.symm.trans q.1) (by decide)), J2 p k hp hk c]
    · rw [hc_o (by decide), if_neg (fun q => absurd (m1.symm.trans q.1) (by decide)), J3 50 _ (by decide)]
    · rw [cp]
      by_cases c : 4 * t.toNatClampNeg ≤ i ∧ i < 4 * t.toNatClampNeg + 4
      · rw [if_pos c, if_pos c, J1 _ (by omega)]
      · rw [if_neg c, if_neg c, J3 48 _ (by decide)]
    · rw [hc_o a, J3 k i b]
  · have Vu : ∀ k, Vk h t w o m k = Uk h t w k := fun k => by unfold Vk; rw [if_neg m1]
    rw [if_neg m1]
    by_cases m2 : m = 2
    · rw [if_pos m2]
      obtain ⟨j1, j2⟩ := join_49_50 (a := w) (b := o) (by omega) (by have := (e44 (Or.inr (Or.inl m2))).2; omega) e4 (eo (Or.inr (Or.inl m2))) 2000 0 (hs h 49 (4 * w + w) t) ⟨by decide, by decide⟩ (by rw [z0]; decide)
      refine ⟨fun p k hp hk => ?_, fun p k hp hk => ?_, fun i => ?_, fun k i a b c => ?_⟩
      · rw [hc_o (by decide)]
        unfold FX4_join_k49k50
        rw [j2 49 _ (by decide)]
        by_cases c : p = w
        · rw [if_pos c, c, U1 k hk, Vu]
        · rw [if_neg c, if_neg (fun q => absurd (m2.symm.trans q.1) (by decide)), U2 p k hp hk c]
      · rw [hc_o (by decide)]
        unfold FX4_join_k49k50
        rw [j1, U3 50 _ (by decide)]
        by_cases c : p = o
        · rw [if_pos (show m = 2 ∧ p = o from ⟨m2, c⟩), if_pos ⟨by rw [z0]; omega, by omega⟩, c]
          have : 4 * w + (4 * o + k - 4 * o) = 4 * w + k := by omega
          rw [this, U1 k hk, Vu]
        · rw [if_neg (show ¬ (m = 2 ∧ p = o) from fun q => c q.2), if_neg (fun q => c (by omega))]
      · rw [cp]
        unfold FX4_join_k49k50
        by_cases c : 4 * t.toNatClampNeg ≤ i ∧ i < 4 * t.toNatClampNeg + 4
        · rw [if_pos c, if_pos c, j2 49 _ (by decide), U1 _ (by omega), Vu]
        · rw [if_neg c, if_neg c, j2 48 _ (by decide), U3 48 _ (by decide)]
      · rw [hc_o a]
        unfold FX4_join_k49k50
        rw [j2 k i c, U3 k i b]
    · rw [if_neg m2]
      by_cases m4 : m = 4
      · rw [if_pos m4]
        obtain ⟨j1, j2⟩ := join_49_49 (a := w) (b := o) (by omega) (by have := (e44 (Or.inr (Or.inr m4))).2; omega) e4 (eo (Or.inr (Or.inr m4))) 2000 0 (hs h 49 (4 * w + w) t) ⟨by decide, by decide⟩ (by rw [z0]; decide)
        have J1 : ∀ k, k < 4 → FX4_join_k49k49 (h 36 t.toNatClampNeg * 4) (h 44 t.toNatClampNeg * 4) (hs h 49 (4 * w + w) t) 49 (4 * w + k) = Vk h t w o m k := fun k hk => by
          unfold FX4_join_k49k49
          rw [j1, U1 k hk, Vu]
          by_cases c : w = o
          · rw [if_pos ⟨by rw [z0]; omega, by omega⟩]
            have : 4 * w + (4 * w + k - 4 * o) = 4 * w + k := by omega
            rw [this, U1 k hk]
            unfold mx
            split <;> rfl
          · rw [if_neg (fun q => c (by omega))]
        have J2 : ∀ p k, p < 4 → k < 4 → ¬ p = w → FX4_join_k49k49 (h 36 t.toNatClampNeg * 4) (h 44 t.toNatClampNeg * 4) (hs h 49 (4 * w + w) t) 49 (4 * p + k) = if p = o then mx (h 49 (4 * p + k)) (Vk h t w o m k) else h 49 (4 * p + k) := fun p k hp hk n => by
          unfold FX4_join_k49k49
          rw [j1, U2 p k hp hk n]
          by_cases c : p = o
          · rw [if_pos c, if_pos ⟨by rw [z0]; omega, by omega⟩]
            have : 4 * w + (4 * p + k - 4 * o) = 4 * w + k := by omega
            rw [this, U1 k hk, Vu]
          · rw [if_neg c, if_neg (fun q => c (by omega))]
        refine ⟨fun p k hp hk => ?_, fun p k hp hk => ?_, fun i => ?_, fun k i a b c => ?_⟩
        · rw [hc_o (by decide)]
          by_cases c : p = w
          · rw [if_pos c, c, J1 k hk]
          · rw [if_neg c, J2 p k hp hk c]
            by_cases d : p = o
            · rw [if_pos d, if_pos ⟨m4, d⟩]
            · rw [if_neg d, if_neg (fun q => d q.2)]
        · rw [hc_o (by decide), if_neg (fun q => m2 q.1)]
          unfold FX4_join_k49k49
          rw [j2 50 _ (by decide), U3 50 _ (by decide)]
        · rw [cp]
          by_cases c : 4 * t.toNatClampNeg ≤ i ∧ i < 4 * t.toNatClampNeg + 4
          · rw [if_pos c, if_pos c, J1 _ (by omega)]
          · rw [if_neg c, if_neg c]
            unfold FX4_join_k49k49
            rw [j2 48 _ (by decide), U3 48 _ (by decide)]
        · rw [hc_o a]
          unfold FX4_join_k49k49
          rw [j2 k i b, U3 k i b]
      · rw [if_neg m4]
        refine ⟨fun p k hp hk => ?_, fun p k hp hk => ?_, fun i => ?_, fun k i a b c => ?_⟩
        · rw [hc_o (by decide)]
          by_cases c : p = w
          · rw [if_pos c, c, U1 k hk, Vu]
          · rw [if_neg c, if_neg (fun q => m4 q.1), U2 p k hp hk c]
        · rw [hc_o (by decide), if_neg (fun q => m2 q.1), U3 50 _ (by decide)]
        · rw [cp]
          by_cases c : 4 * t.toNatClampNeg ≤ i ∧ i < 4 * t.toNatClampNeg + 4
          · rw [if_pos c, if_pos c, U1 _ (by omega), Vu]
          · rw [if_neg c, if_neg c, U3 48 _ (by decide)]
        · rw [hc_o a, U3 k i b]
end
end MG_48_x64H7
section MG_48_x65H8
/-! ORDER: the clocks tell the relation -/
def SPp (g : ph_H) (T : Int) (p s : Int32) : Prop := ∃ s' : Int32, 1 ≤ s'.toInt ∧ s'.toInt ≤ T ∧ (g 29 s'.toNatClampNeg = p ∨ (g 34 s'.toNatClampNeg = 4 ∧ g 35 s'.toNatClampNeg = p)) ∧ (s = s' ∨ TCr g s s')
def SLo (g : ph_H) (T : Int) (o s : Int32) : Prop := ∃ s' : Int32, 1 ≤ s'.toInt ∧ s'.toInt ≤ T ∧ (g 34 s'.toNatClampNeg = 2 ∧ g 35 s'.toNatClampNeg = o) ∧ (s = s' ∨ TCr g s s')
theorem SPp_succ {g : ph_H} {T : Int} {p s t : Int32} (e : t.toInt = T + 1) (T0 : 0 ≤ T) : SPp g (T + 1) p s ↔ (SPp g T p s ∨ ((g 29 t.toNatClampNeg = p ∨ (g 34 t.toNatClampNeg = 4 ∧ g 35 t.toNatClampNeg = p)) ∧ (s = t ∨ TCr g s t))) := by
  constructor
  · rintro ⟨s', a, b, c, d⟩
    by_cases q : s'.toInt ≤ T
    · exact Or.inl ⟨s', a, q, c, d⟩
    · have : s' = t := tI (by omega)
      rw [this] at c d
      exact Or.inr ⟨c, d⟩
  · rintro (⟨s', a, b, c, d⟩ | ⟨c, d⟩)
    · exact ⟨s', a, by omega, c, d⟩
    · exact ⟨t, by omega, by omega, c, d⟩
theorem SLo_succ {g : ph_H} {T : Int} {o s t : Int32} (e : t.toInt = T + 1) (T0 : 0 ≤ T) : SLo g (T + 1) o s ↔ (SLo g T o s ∨ ((g 34 t.toNatClampNeg = 2 ∧ g 35 t.toNatClampNeg = o) ∧ (s = t ∨ TCr g s t))) := by
  constructor
  · rintro ⟨s', a, b, c, d⟩
    by_cases q : s'.toInt ≤ T
    · exact Or.inl ⟨s', a, q, c, d⟩
    · have : s' = t := tI (by omega)
      rw [this] at c d
      exact Or.inr ⟨c, d⟩
  · rintro (⟨s', a, b, c, d⟩ | ⟨c, d⟩)
    · exact ⟨s', a, by omega, c, d⟩
    · exact ⟨t, by omega, by omega, c, d⟩
theorem SPp_no {g : ph_H} {T : Int} {p t : Int32} (e : T < t.toInt) : ¬ SPp g T p t := by
  rintro ⟨s', a, b, c, d⟩
  rcases d with d | d
  · rw [d] at e
    omega
  · have := TC_lt d
    omega
theorem SLo_no {g : ph_H} {T : Int} {o t : Int32} (e : T < t.toInt) : ¬ SLo g T o t := by
  rintro ⟨s', a, b, c, d⟩
  rcases d with d | d
  · rw [d] at e
    omega
  · have := TC_lt d
    omega
def LI (g h : ph_H) (T : Int) : Prop := (∀ p k : Nat, p < 4 → k < 4 → 0 ≤ (h 49 (4 * p + k)).toInt ∧ (h 49 (4 * p + k)).toInt ≤ T) ∧ (∀ p k : Nat, p < 12 → k < 4 → 0 ≤ (h 50 (4 * p + k)).toInt ∧ (h 50 (4 * p + k)).toInt ≤ T) ∧ (∀ p s : Int32, iv 0 3 p → 1 ≤ s.toInt → s.toInt ≤ T → (s.toInt ≤ (h 49 (4 * p.toNatClampNeg + (g 29 s.toNatClampNeg).toNatClampNeg)).toInt ↔ SPp g T p s)) ∧ (∀ o s : Int32, iv 0 11 o → 1 ≤ s.toInt → s.toInt ≤ T → (s.toInt ≤ (h 50 (4 * o.toNatClampNeg + (g 29 s.toNatClampNeg).toNatClampNeg)).toInt ↔ SLo g T o s)) ∧ (∀ t' s : Int32, 1 ≤ s.toInt → s.toInt ≤ t'.toInt → t'.toInt ≤ T → (s.toInt ≤ (h 48 (4 * t'.toNatClampNeg + (g 29 s.toNatClampNeg).toNatClampNeg)).toInt ↔ (s = t' ∨ TCr g s t')))
/-- what the record says of each step -/
def MG (g : ph_H) : Prop := ∀ s : Int32, 1 ≤ s.toInt → s.toInt ≤ (g 0 38).toInt → iv 0 3 (g 29 s.toNatClampNeg) ∧ (g 34 s.toNatClampNeg = 1 ∨ g 34 s.toNatClampNeg = 2 → iv 0 11 (g 35 s.toNatClampNeg)) ∧ (g 34 s.toNatClampNeg = 4 → iv 0 3 (g 35 s.toNatClampNeg)) ∧ (g 34 s.toNatClampNeg = 0 ∨ g 34 s.toNatClampNeg = 1 ∨ g 34 s.toNatClampNeg = 2 ∨ g 34 s.toNatClampNeg = 3 ∨ g 34 s.toNatClampNeg = 4) ∧ (g 32 s.toNatClampNeg = -2 ∨ g 33 s.toNatClampNeg = -2)
theorem MG_of {g : ph_H} {Gs : Nat → ph_H} (S : SQ g Gs (g 0 38).toNatClampNeg) (f38 : iv 0 300 (g 0 38)) : MG g := fun s s1 s2 => by
  have n38 := iv_nat f38 rfl
  have sn : (s.toNatClampNeg : Int) = s.toInt := by
    rw [← Int32.toNat_toInt]
    omega
  obtain ⟨p, ep⟩ : ∃ p, s.toNatClampNeg = p + 1 := ⟨s.toNatClampNeg - 1, by omega⟩
  obtain ⟨ht, -, -, x, -, M⟩ := S.2.1 p (by omega)
  obtain ⟨⟨zz, II⟩, -, -⟩ := S.1 p (by omega)
  have t18 := th_nn II
  rw [← ep] at ht x M
  refine ⟨ht, ?_, ?_, ?_, x⟩
  · intro q
    rcases M with ⟨_, o, _⟩ | ⟨_, o, _⟩ | ⟨e, _⟩ | ⟨e, _⟩ | ⟨e, _⟩
    · exact ⟨o.1, by omega⟩
    · exact ⟨o.1, by omega⟩
    all_goals (rw [e] at q; exact absurd q (by decide))
  · intro q
    rcases M with ⟨e, _⟩ | ⟨e, _⟩ | ⟨e, _⟩ | ⟨_, o, _⟩ | ⟨e, _⟩
    · rw [e] at q
      exact absurd q (by decide)
    · rw [e] at q
      exact absurd q (by decide)
    · rw [e] at q
      exact absurd q (by decide)
    · exact o
    · rw [e] at q
      exact absurd q (by decide)
  · rcases M with ⟨e, _⟩ | ⟨e, _⟩ | ⟨e, _⟩ | ⟨e, _⟩ | ⟨e, _⟩
    · exact Or.inr (Or.inl e)
    · exact Or.inr (Or.inr (Or.inl e))
    · exact Or.inr (Or.inr (Or.inr (Or.inl e)))
    · exact Or.inr (Or.inr (Or.inr (Or.inr e)))
    · exact Or.inl e
def RRc (g h : ph_H) : Prop := ∀ s : Int32, 1 ≤ s.toInt → s.toInt ≤ (g 0 38).toInt → h 36 s.toNatClampNeg = g 29 s.toNatClampNeg ∧ h 43 s.toNatClampNeg = g 34 s.toNatClampNeg ∧ (¬ g 34 s.toNatClampNeg = 0 → ¬ g 34 s.toNatClampNeg = 3 → h 44 s.toNatClampNeg = g 35 s.toNatClampNeg)
theorem natI {a b : Int32} {x y : Int} (fa : iv 0 x a) (fb : iv 0 y b) (e : a.toNatClampNeg = b.toNatClampNeg) : a = b := by
  have na : (a.toNatClampNeg : Int) = a.toInt := by
    rw [← Int32.toNat_toInt]
    have := fa.1
    omega
  have nb : (b.toNatClampNeg : Int) = b.toInt := by
    rw [← Int32.toNat_toInt]
    have := fb.1
    omega
  exact tI (by omega)
theorem learn_LI {g h : ph_H} {Gs : Nat → ph_H} (S : SQ g Gs (g 0 38).toNatClampNeg) (f38 : iv 0 300 (g 0 38)) (RR : RRc g h) {T : Int} {t : Int32} (et : t.toInt = T + 1) (T0 : 0 ≤ T) (Tn : T + 1 ≤ (g 0 38).toInt) (I : LI g h T) : LI g (FX4_learn t h) (T + 1) ∧ (∀ k i, ¬ k = 48 → ¬ k = 49 → ¬ k = 50 → FX4_learn t h k i = h k i) ∧ (∀ i : Nat, i < 4 * t.toNatClampNeg → FX4_learn t h 48 i = h 48 i) := by
  have f38' := f38
  unfold iv at f38'
  have MGg := MG_of S f38
  obtain ⟨p3, o11, o3, ms, -⟩ := MGg t (by omega) (by omega)
  obtain ⟨r36, r43, r44⟩ := RR t (by omega) (by omega)
  have pn := iv_nat p3 rfl
  have p3' := p3
  unfold iv at p3'
  have tn : (t.toNatClampNeg : Int) = t.toInt := by
    rw [← Int32.toNat_toInt]
    omega
  obtain ⟨i1, i2, i3, i4, i5⟩ := I
  have LE := learn_eq (h := h) (t := t) (w := (g 29 t.toNatClampNeg).toNatClampNeg) (o := (g 35 t.toNatClampNeg).toNatClampNeg) (m := g 34 t.toNatClampNeg) ⟨by omega, by omega⟩ (by rw [r36]; omega) (by omega) r43 (fun q => by
    have e44 := r44 (by rcases q with q | q | q <;> (rw [q]; decide)) (by rcases q with q | q | q <;> (rw [q]; decide))
    rw [e44]
    have f : iv 0 11 (g 35 t.toNatClampNeg) := by
      rcases q with q | q | q
      · exact o11 (Or.inl q)
      · exact o11 (Or.inr q)
      · have := o3 q
        exact ⟨this.1, by have := this.2; omega⟩
    have := iv_nat f rfl
    unfold iv at f
    exact ⟨by omega, by omega⟩) (fun q => by
    have f := o3 q
    have := iv_nat f rfl
    unfold iv at f
    omega)
  obtain ⟨l1, l2, l3, l4⟩ := LE
  have thr : ∀ s : Int32, 1 ≤ s.toInt → s.toInt ≤ (g 0 38).toInt → (g 29 s.toNatClampNeg).toNatClampNeg < 4 ∧ iv 0 3 (g 29 s.toNatClampNeg) := fun s a b => by
    have f := (MGg s a b).1
    have := iv_nat f rfl
    refine ⟨?_, f⟩
    unfold iv at f
    omega
  have F1 : ∀ s : Int32, 1 ≤ s.toInt → s.toInt ≤ T → (s.toInt ≤ (Uk h t (g 29 t.toNatClampNeg).toNatClampNeg (g 29 s.toNatClampNeg).toNatClampNeg).toInt ↔ SPp g T (g 29 t.toNatClampNeg) s) := fun s a b => by
    unfold Uk
    by_cases c : (g 29 s.toNatClampNeg).toNatClampNeg = (g 29 t.toNatClampNeg).toNatClampNeg
    · rw [if_pos c]
      exact ⟨fun _ => ⟨s, a, b, Or.inl (natI (thr s a (by omega)).2 p3 c), Or.inl rfl⟩, fun _ => by omega⟩
    · rw [if_neg c]
      exact i3 _ s p3 a b
  have F2 : ∀ s : Int32, 1 ≤ s.toInt → s.toInt ≤ T → (TCr g s t ↔ (SPp g T (g 29 t.toNatClampNeg) s ∨ (g 34 t.toNatClampNeg = 1 ∧ SLo g T (g 35 t.toNatClampNeg) s))) := fun s a b => by
    constructor
    · intro x
      obtain ⟨s', s1, s2, d, e⟩ := TC3 S f38 x
      rcases d with d | ⟨d1, d2, d3⟩ | ⟨d1, d2⟩
      · exact Or.inl ⟨s', s1, by omega, Or.inl d, e⟩
      · exact Or.inr ⟨d2, s', s1, by omega, ⟨d1, d3⟩, e⟩
      · exact Or.inl ⟨s', s1, by omega, Or.inr ⟨d1, d2⟩, e⟩
    · rintro (⟨s', s1, s2, d, e⟩ | ⟨m1, s', s1, s2, d, e⟩)
      · refine TC_of s1 (by omega) (by omega) ?_ e
        rcases d with d | d
        · exact Or.inl d
        · exact Or.inr (Or.inr d)
      · exact TC_of s1 (by omega) (by omega) (Or.inr (Or.inl ⟨d.1, m1, d.2⟩)) e
  have F3 : ∀ s : Int32, 1 ≤ s.toInt → s.toInt ≤ T → (s.toInt ≤ (Vk h t (g 29 t.toNatClampNeg).toNatClampNeg (g 35 t.toNatClampNeg).toNatClampNeg (g 34 t.toNatClampNeg) (g 29 s.toNatClampNeg).toNatClampNeg).toInt ↔ TCr g s t) := fun s a b => by
    rw [F2 s a b]
    unfold Vk
    by_cases m1 : g 34 t.toNatClampNeg = 1
    · rw [if_pos m1, mx_le, F1 s a b, i4 _ s (o11 (Or.inl m1)) a b]
      exact ⟨fun x => x.elim Or.inl (fun x => Or.inr ⟨m1, x⟩), fun x => x.elim Or.inl (fun x => Or.inr x.2)⟩
    · rw [if_neg m1, F1 s a b]
      exact ⟨Or.inl, fun x => x.elim id (fun x => absurd x.1 m1)⟩
  have F4 : t.toInt ≤ (Vk h t (g 29 t.toNatClampNeg).toNatClampNeg (g 35 t.toNatClampNeg).toNatClampNeg (g 34 t.toNatClampNeg) (g 29 t.toNatClampNeg).toNatClampNeg).toInt := by
    have u : t.toInt ≤ (Uk h t (g 29 t.toNatClampNeg).toNatClampNeg (g 29 t.toNatClampNeg).toNatClampNeg).toInt := by
      unfold Uk
      rw [if_pos rfl]
      exact Int.le_refl _
    unfold Vk
    split
    · exact mx_le.mpr (Or.inl u)
    · exact u
  have F6 : ∀ s : Int32, 1 ≤ s.toInt → s.toInt ≤ T + 1 → (s.toInt ≤ (Vk h t (g 29 t.toNatClampNeg).toNatClampNeg (g 35 t.toNatClampNeg).toNatClampNeg (g 34 t.toNatClampNeg) (g 29 s.toNatClampNeg).toNatClampNeg).toInt ↔ (s = t ∨ TCr g s t)) := fun s a b => by
    by_cases c : s.toInt ≤ T
    · rw [F3 s a c]
      exact ⟨Or.inr, fun x => x.elim (fun e => by rw [e] at c; omega) id⟩
    · have : s = t := tI (by omega)
      rw [this]
      exact ⟨fun _ => Or.inl rfl, fun _ => F4⟩
  have VB : ∀ k, k < 4 → 0 ≤ (Vk h t (g 29 t.toNatClampNeg).toNatClampNeg (g 35 t.toNatClampNeg).toNatClampNeg (g 34 t.toNatClampNeg) k).toInt ∧ (Vk h t (g 29 t.toNatClampNeg).toNatClampNeg (g 35 t.toNatClampNeg).toNatClampNeg (g 34 t.toNatClampNeg) k).toInt ≤ T + 1 := fun k hk => by
    have u : 0 ≤ (Uk h t (g 29 t.toNatClampNeg).toNatClampNeg k).toInt ∧ (Uk h t (g 29 t.toNatClampNeg).toNatClampNeg k).toInt ≤ T + 1 := by
      unfold Uk
      split
      · exact ⟨by omega, by omega⟩
      · have := i1 (g 29 t.toNatClampNeg).toNatClampNeg k (by omega) hk
        exact ⟨this.1, by omega⟩
    unfold Vk
    by_cases m1 : g 34 t.toNatClampNeg = 1
    · rw [if_pos m1]
      have f := o11 (Or.inl m1)
      have fn := iv_nat f rfl
      unfold iv at f
      have := i2 (g 35 t.toNatClampNeg).toNatClampNeg k (by omega) hk
      exact mx_in u ⟨this.1, by omega⟩
    · rw [if_neg m1]
      exact u
  refine ⟨⟨fun p k hp hk => ?_, fun p k hp hk => ?_, fun p s fp s1 s2 => ?_, fun o s fo s1 s2 => ?_, fun t' s s1 s2 t2 => ?_⟩, l4, fun i hi => by rw [l3, if_neg (fun x => by omega)]⟩
  · rw [l1 p k hp hk]
    have b := i1 p k hp hk
    by_cases c : p = (g 29 t.toNatClampNeg).toNatClampNeg
    · rw [if_pos c]
      exact VB k hk
    · rw [if_neg c]
      by_cases d : g 34 t.toNatClampNeg = 4 ∧ p = (g 35 t.toNatClampNeg).toNatClampNeg
      · rw [if_pos d]
        exact mx_in ⟨b.1, by omega⟩ (VB k hk)
      · rw [if_neg d]
        exact ⟨b.1, by omega⟩
  · rw [l2 p k hp hk]
    have b := i2 p k hp hk
    by_cases d : g 34 t.toNatClampNeg = 2 ∧ p = (g 35 t.toNatClampNeg).toNatClampNeg
    · rw [if_pos d]
      exact mx_in ⟨b.1, by omega⟩ (VB k hk)
    · rw [if_neg d]
      exact ⟨b.1, by omega⟩
  · -- of a THREAD
    obtain ⟨th, -⟩ := thr s s1 (by omega)
    have fpn := iv_nat fp rfl
    have fp' := fp
    unfold iv at fp'
    rw [l1 p.toNatClampNeg _ (by omega) th, SPp_succ et T0]
    by_cases c : p.toNatClampNeg = (g 29 t.toNatClampNeg).toNatClampNeg
    · have ep : p = g 29 t.toNatClampNeg := natI fp p3 c
      rw [if_pos c, F6 s s1 s2]
      constructor
      · intro x
        exact Or.inr ⟨Or.inl ep.symm, x⟩
      · rintro (⟨s', a, b, d, e⟩ | ⟨_, x⟩)
        · right
          refine TC_of a (by omega) (by omega) ?_ e
          rcases d with d | d
          · exact Or.inl (by rw [d, ep])
          · exact Or.inr (Or.inr ⟨d.1, by rw [d.2, ep]⟩)
        · exact x
    · rw [if_neg c]
      have np : ¬ g 29 t.toNatClampNeg = p := fun e => c (by rw [e])
      by_cases d : g 34 t.toNatClampNeg = 4 ∧ p.toNatClampNeg = (g 35 t.toNatClampNeg).toNatClampNeg
      · have ep : p = g 35 t.toNatClampNeg := natI fp (o3 d.1) d.2
        rw [if_pos d, mx_le, F6 s s1 s2]
        by_cases q : s.toInt ≤ T
        · rw [i3 p s fp s1 q]
          exact ⟨fun x => x.elim Or.inl (fun x => Or.inr ⟨Or.inr ⟨d.1, ep.symm⟩, x⟩), fun x => x.elim Or.inl (fun x => Or.inr x.2)⟩
        · have es : s = t := tI (by omega)
          exact ⟨fun _ => Or.inr ⟨Or.inr ⟨d.1, ep.symm⟩, Or.inl es⟩, fun _ => Or.inr (Or.inl es)⟩
      · rw [if_neg d]
        have nn : ¬ (g 29 t.toNatClampNeg = p ∨ (g 34 t.toNatClampNeg = 4 ∧ g 35 t.toNatClampNeg = p)) := fun x => x.elim np (fun x => d ⟨x.1, by rw [x.2]⟩)
        by_cases q : s.toInt ≤ T
        · rw [i3 p s fp s1 q]
          exact ⟨Or.inl, fun x => x.elim id (fun x => absurd x.1 nn)⟩
        · have es : s = t := tI (by omega)
          have b := (i1 p.toNatClampNeg (g 29 s.toNatClampNeg).toNatClampNeg (by omega) th).2
          constructor
          · intro x
            omega
          · rintro (x | x)
            · rw [es] at x
              exact absurd x (SPp_no (by omega))
            · exact absurd x.1 nn
  · -- of a LOCK
    obtain ⟨th, -⟩ := thr s s1 (by omega)
    have fon := iv_nat fo rfl
    have fo' := fo
    unfold iv at fo'
    rw [l2 o.toNatClampNeg _ (by omega) th, SLo_succ et T0]
    by_cases d : g 34 t.toNatClampNeg = 2 ∧ o.toNatClampNeg = (g 35 t.toNatClampNeg).toNatClampNeg
    · have eo : o = g 35 t.toNatClampNeg := natI fo (o11 (Or.inr d.1)) d.2
      rw [if_pos d, mx_le, F6 s s1 s2]
      by_cases q : s.toInt ≤ T
      · rw [i4 o s fo s1 q]
        exact ⟨fun x => x.elim Or.inl (fun x => Or.inr ⟨⟨d.1, eo.symm⟩, x⟩), fun x => x.elim Or.inl (fun x => Or.inr x.2)⟩
      · have es : s = t := tI (by omega)
        exact ⟨fun _ => Or.inr ⟨⟨d.1, eo.symm⟩, Or.inl es⟩, fun _ => Or.inr (Or.inl es)⟩
    · rw [if_neg d]
      have nn : ¬ (g 34 t.toNatClampNeg = 2 ∧ g 35 t.toNatClampNeg = o) := fun x => d ⟨x.1, by rw [x.2]⟩
      by_cases q : s.toInt ≤ T
      · rw [i4 o s fo s1 q]
        exact ⟨Or.inl, fun x => x.elim id (fun x => absurd x.1 nn)⟩
      · have es : s = t := tI (by omega)
        have b := (i2 o.toNatClampNeg (g 29 s.toNatClampNeg).toNatClampNeg (by omega) th).2
        constructor
        · intro x
          omega
        · rintro (x | x)
          · rw [es] at x
            exact absurd x (SLo_no (by omega))
          · exact absurd x.1 nn
  · -- of a step
    obtain ⟨th, -⟩ := thr s s1 (by omega)
    have t'n : (t'.toNatClampNeg : Int) = t'.toInt := by
      rw [← Int32.toNat_toInt]
      omega
    rw [l3]
    by_cases q : t'.toInt ≤ T
    · rw [if_neg (fun x => by omega)]
      exact i5 t' s s1 s2 q
    · have e' : t' = t := tI (by omega)
      rw [e'] at s2 ⊢
      rw [if_pos ⟨by omega, by omega⟩]
      have : 4 * t.toNatClampNeg + (g 29 s.toNatClampNeg).toNatClampNeg - 4 * t.toNatClampNeg = (g 29 s.toNatClampNeg).toNatClampNeg := by omega
      rw [this]
      exact F6 s s1 (by omega)
end MG_48_x65H8
section MG_48_x66H9
/-! ORDER: AHEAD and RACES on both sides -/
/-- the rows that the order is made of -/
def RPl (g h : ph_H) : Prop := ∀ s : Int32, 1 ≤ s.toInt → s.toInt ≤ (g 0 38).toInt → h 39 s.toNatClampNeg = g 32 s.toNatClampNeg ∧ h 40 s.toNatClampNeg = g 33 s.toNatClampNeg ∧ PLp (g 32 s.toNatClampNeg) ∧ PLp (g 33 s.toNatClampNeg)
def KN (g h : ph_H) (T : Int) : Prop := ∀ t' s : Int32, 1 ≤ s.toInt → s.toInt ≤ t'.toInt → t'.toInt ≤ T → (s.toInt ≤ (h 48 (4 * t'.toNatClampNeg + (g 29 s.toNatClampNeg).toNatClampNeg)).toInt ↔ (s = t' ∨ TCr g s t'))
theorem ahead_eq {g h : ph_H} {T : Int} (f38 : iv 0 300 (g 0 38)) (MGg : MG g) (RR : RRc g h) (K : KN g h T) (Tn : T ≤ (g 0 38).toInt) {s t : Int32} (s1 : 1 ≤ s.toInt) (st : s.toInt < t.toInt) (tT : t.toInt ≤ T) : FX4_isAhead s t h = 0 ↔ ¬ TCr g s t := by
  have k4 : (4 : Int32).toInt = 4 := by decide
  unfold iv at f38
  have f := (MGg s s1 (by omega)).1
  have fn := iv_nat f rfl
  unfold iv at f
  have tn : (t.toNatClampNeg : Int) = t.toInt := by
    rw [← Int32.toNat_toInt]
    omega
  have e1 : (t * 4).toInt = 4 * t.toInt := by rw [ti_mul (by rw [k4]; omega) (by rw [k4]; omega), k4]; omega
  have e2 : (t * 4 + g 29 s.toNatClampNeg).toInt = 4 * t.toInt + (g 29 s.toNatClampNeg).toInt := by rw [ti_add (by omega) (by omega), e1]
  have ix : (t * 4 + g 29 s.toNatClampNeg).toNatClampNeg = 4 * t.toNatClampNeg + (g 29 s.toNatClampNeg).toNatClampNeg := by
    have : ((t * 4 + g 29 s.toNatClampNeg).toNatClampNeg : Int) = 4 * t.toInt + (g 29 s.toNatClampNeg).toInt := by
      rw [← Int32.toNat_toInt]
      omega
    omega
  have k := K t s s1 (by omega) tT
  unfold FX4_isAhead
  rw [if_neg (show ¬ t ≤ s by rw [Int32.le_iff_toInt_le]; omega), (RR s s1 (by omega)).1, ix]
  by_cases c : h 48 (4 * t.toNatClampNeg + (g 29 s.toNatClampNeg).toNatClampNeg) < s
  · rw [if_pos c]
    rw [Int32.lt_iff_toInt_lt] at c
    exact ⟨fun _ w => by have := k.mpr (Or.inr w); omega, fun _ => rfl⟩
  · rw [if_neg c]
    rw [Int32.lt_iff_toInt_lt] at c
    refine ⟨fun w => absurd w (by decide), fun w => ?_⟩
    rcases k.mp (by omega) with e | e
    · rw [e] at st
      omega
    · exact absurd e w
theorem place_of {g h : ph_H} {s : Int32} (RP : h 39 s.toNatClampNeg = g 32 s.toNatClampNeg ∧ h 40 s.toNatClampNeg = g 33 s.toNatClampNeg ∧ PLp (g 32 s.toNatClampNeg) ∧ PLp (g 33 s.toNatClampNeg)) (X : g 32 s.toNatClampNeg = -2 ∨ g 33 s.toNatClampNeg = -2) : FX10_placeOf s h = (if g 33 s.toNatClampNeg < 0 then g 32 s.toNatClampNeg else g 33 s.toNatClampNeg) ∧ PLp (FX10_placeOf s h) ∧ (0 ≤ (g 33 s.toNatClampNeg).toInt → FX10_placeOf s h = g 33 s.toNatClampNeg) ∧ (¬ 0 ≤ (g 33 s.toNatClampNeg).toInt → FX10_placeOf s h = g 32 s.toNatClampNeg ∧ g 33 s.toNatClampNeg = -2) := by
  have k0 : (0 : Int32).toInt = 0 := by decide
  have km : (-2 : Int32).toInt = -2 := by decide
  obtain ⟨r1, r2, p1, p2⟩ := RP
  unfold FX10_placeOf
  rw [r1, r2]
  by_cases c : 0 ≤ (g 33 s.toNatClampNeg).toInt
  · have n33 : ¬ g 33 s.toNatClampNeg = -2 := fun e => by rw [e, km] at c; omega
    have e32 : g 32 s.toNatClampNeg = -2 := X.elim id (fun e => absurd e n33)
    rw [if_pos e32, if_neg (show ¬ g 33 s.toNatClampNeg < 0 by rw [Int32.lt_iff_toInt_lt, k0]; omega)]
    exact ⟨rfl, p2, fun _ => rfl, fun w => absurd c w⟩
  · have e33 : g 33 s.toNatClampNeg = -2 := p2.elim id (fun w => absurd w c)
    rw [if_pos (show g 33 s.toNatClampNeg < 0 by rw [e33]; decide)]
    by_cases d : g 32 s.toNatClampNeg = -2
    · rw [if_pos d, e33, d]
      exact ⟨rfl, Or.inl rfl, fun w => absurd w (by decide), fun _ => ⟨rfl, rfl⟩⟩
    · rw [if_neg d]
      exact ⟨rfl, p1, fun w => absurd w c, fun _ => ⟨rfl, e33⟩⟩
/-- which place two steps share -/
def rcYy (c d x s0 : Int32) : Int32 := if x < 0 then -1 else if s0 = 0 then -1 else if c = x then x else if d = x then x else -1
def rcXx (a c d x : Int32) : Int32 := if 0 ≤ a then rcYy c d x 1 else if c < 0 then rcYy c d x 0 else rcYy c d x 1
theorem rf_eq {a b c d : Int32} (pa : PLp a) (pb : PLp b) (pc : PLp c) (pd : PLp d) (xs : b = -2 ∨ a = -2) (xt : d = -2 ∨ c = -2) : (if a < 0 then rcXx a c d b else rcXx a c d a) = if 0 ≤ (if a < 0 then b else a).toInt ∧ (0 ≤ a.toInt ∨ 0 ≤ c.toInt) ∧ (if c < 0 then d else c) = (if a < 0 then b else a) then (if a < 0 then b else a) else -1 := by
  have k0 : (0 : Int32).toInt = 0 := by decide
  have m0 : ¬ (0 : Int) ≤ (-2 : Int32).toInt := by decide
  have lt : ∀ x : Int32, 0 ≤ x.toInt → ¬ x < 0 ∧ 0 ≤ x ∧ ¬ x = -2 := fun x h => ⟨by rw [Int32.lt_iff_toInt_lt, k0]; omega, by rw [Int32.le_iff_toInt_le, k0]; exact h, fun e => by rw [e] at h; exact m0 h⟩
  rcases pa with rfl | pa
  · simp (decide := true) only [↓reduceIte]
    unfold rcXx
    rcases pc with rfl | pc
    · simp (decide := true) only [↓reduceIte, or_self, false_and, and_false]
      unfold rcYy
      simp (decide := true) only [↓reduceIte]
      split <;> rfl
    · obtain ⟨c1, c2, c3⟩ := lt c pc
      have ed : d = -2 := xt.elim id (fun e => absurd e c3)
      simp (decide := true) only [c1, pc, ↓reduceIte, or_true, true_and]
      unfold rcYy
      rcases pb with rfl | pb
      · simp (decide := true) only [↓reduceIte, false_and]
      · obtain ⟨b1, b2, b3⟩ := lt b pb
        simp (decide := true) only [b1, pb, ↓reduceIte, true_and]
        by_cases e : c = b
        · rw [if_pos e, if_pos e]
        · rw [if_neg e, if_neg e, if_neg (fun w => b3 (by rw [← w, ed]))]
  · obtain ⟨a1, a2, a3⟩ := lt a pa
    simp (decide := true) only [a1, pa, ↓reduceIte, true_or, true_and]
    unfold rcXx rcYy
    simp (decide := true) only [a1, a2, ↓reduceIte]
    rcases pc with rfl | pc
    · simp (decide := true) only [↓reduceIte]
      rw [if_neg (fun w => a3 w.symm)]
    · obtain ⟨c1, c2, c3⟩ := lt c pc
      have ed : d = -2 := xt.elim id (fun e => absurd e c3)
      simp (decide := true) only [c1, ↓reduceIte]
      by_cases e : c = a
      · rw [if_pos e, if_pos e]
      · rw [if_neg e, if_neg e, if_neg (fun w => a3 (by rw [← w, ed]))]
/-- a RACE -/
theorem race_eq {g h G : ph_H} {T : Int} (f38 : iv 0 300 (g 0 38)) (MGg : MG g) (RR : RRc g h) (RP : RPl g h) (K : KN g h T) (Tn : T ≤ (g 0 38).toInt) (S4 : ∀ k i, (k = 29 ∨ k = 32 ∨ k = 33) → G k i = g k i) (O : OLD g G ((g 0 38).toInt + 1)) {s t : Int32} (s1 : 1 ≤ s.toInt) (st : s.toInt < t.toInt) (tT : t.toInt ≤ T) : (FX4_isRace s t h = 0 ∧ FX12_racing s t G < 0) ∨ (FX4_isRace s t h = 1 ∧ ¬ FX12_racing s t G < 0 ∧ FX12_racing s t G = FX10_placeOf t h) := by
  have k0 : (0 : Int32).toInt = 0 := by decide
  have km : (-2 : Int32).toInt = -2 := by decide
  have f38' := f38
  unfold iv at f38'
  obtain ⟨fs, -, -, -, xs⟩ := MGg s s1 (by omega)
  obtain ⟨ft, -, -, -, xt⟩ := MGg t (by omega) (by omega)
  have RPs := RP s s1 (by omega)
  have RPt := RP t (by omega) (by omega)
  obtain ⟨a1, a2, a3, a4⟩ := place_of RPs xs
  obtain ⟨b1, b2, b3, b4⟩ := place_of RPt xt
  have ah := ahead_eq f38 MGg RR K Tn s1 st tT
  have om := O s t s1 st (by omega)
  have fs0 : iv 0 300 s := ⟨by omega, by omega⟩
  have ft0 : iv 0 300 t := ⟨by omega, by omega⟩
  have RF : FX12_racing s t G = if g 29 s.toNatClampNeg = g 29 t.toNatClampNeg then -1 else if M39 G s t = 0 then (if 0 ≤ (FX10_placeOf s h).toInt ∧ (0 ≤ (g 33 s.toNatClampNeg).toInt ∨ 0 ≤ (g 33 t.toNatClampNeg).toInt) ∧ FX10_placeOf t h = FX10_placeOf s h then FX10_placeOf s h else -1) else -1 := by
    have e := rf_eq RPs.2.2.2 RPs.2.2.1 RPt.2.2.2 RPt.2.2.1 xs xt
    rw [← a1, ← b1] at e
    rw [← e]
    unfold FX12_racing
    rw [ix39 fs0 ft0, S4 29 _ (by omega), S4 29 _ (by omega), S4 33 _ (by omega), S4 32 _ (by omega)]
    have Z : ∀ x : Int32, FX12_racing_56 s t x G = rcXx (g 33 s.toNatClampNeg) (g 33 t.toNatClampNeg) (g 32 t.toNatClampNeg) x := fun x => by
      unfold FX12_racing_56 FX12_racing_75 FX12_racing_80 FX12_racing_111 rcXx rcYy
      rw [S4 33 _ (by omega), S4 33 _ (by omega), S4 32 _ (by omega)]
    rw [Z, Z]
  have CF : FX4_isRace s t h = if ¬ FX10_placeOf t h = -2 ∧ FX10_placeOf s h = FX10_placeOf t h ∧ ¬ g 29 s.toNatClampNeg = g 29 t.toNatClampNeg ∧ (g 33 s.toNatClampNeg = FX10_placeOf t h ∨ g 33 t.toNatClampNeg = FX10_placeOf t h) ∧ FX4_isAhead s t h = 0 then 1 else 0 := by
    unfold FX4_isRace FX4_isRace_76
    rw [(RR s s1 (by omega)).1, (RR t (by omega) (by omega)).1, RPs.2.1, RPt.2.1]
    by_cases c1 : FX10_placeOf t h = -2
    · rw [if_pos c1, if_neg (fun w => w.1 c1)]
    · rw [if_neg c1]
      by_cases c2 : FX10_placeOf s h = FX10_placeOf t h
      · rw [if_pos c2]
        by_cases c3 : g 29 s.toNatClampNeg = g 29 t.toNatClampNeg
        · rw [if_pos c3, if_neg (fun w => w.2.2.1 c3)]
        · rw [if_neg c3]
          by_cases c5 : FX4_isAhead s t h = 0
          · rw [if_pos c5]
            by_cases c4 : g 33 s.toNatClampNeg = FX10_placeOf t h
            · rw [if_pos c4, if_pos ⟨c1, c2, c3, Or.inl c4, c5⟩]
            · rw [if_neg c4]
              by_cases c6 : g 33 t.toNatClampNeg = FX10_placeOf t h
              · rw [if_pos c6, if_pos ⟨c1, c2, c3, Or.inr c6, c5⟩]
              · rw [if_neg c6, if_neg (fun w => w.2.2.2.1.elim c4 c6)]
          · rw [if_neg c5, if_neg (show ¬ (¬ FX10_placeOf t h = -2 ∧ FX10_placeOf s h = FX10_placeOf t h ∧ ¬ g 29 s.toNatClampNeg = g 29 t.toNatClampNeg ∧ (g 33 s.toNatClampNeg = FX10_placeOf t h ∨ g 33 t.toNatClampNeg = FX10_placeOf t h) ∧ FX4_isAhead s t h = 0) from fun w => c5 w.2.2.2.2)]
            split
            · rfl
            · split <;> rfl
      · rw [if_neg c2, if_neg (fun w => c2 w.2.1)]
  rw [RF, CF]
  by_cases c1 : g 29 s.toNatClampNeg = g 29 t.toNatClampNeg
  · left
    rw [if_pos c1, if_neg (fun w => w.2.2.1 c1)]
    exact ⟨rfl, by decide⟩
  · rw [if_neg c1]
    by_cases c2 : TCr g s t
    · left
      rw [if_neg (om.mpr c2), if_neg (fun w => ah.mp w.2.2.2.2 c2)]
      exact ⟨rfl, by decide⟩
    · have m : M39 G s t = 0 := Classical.byContradiction (fun w => c2 (om.mp w))
      rw [if_pos m]
      by_cases c3 : 0 ≤ (FX10_placeOf s h).toInt ∧ (0 ≤ (g 33 s.toNatClampNeg).toInt ∨ 0 ≤ (g 33 t.toNatClampNeg).toInt) ∧ FX10_placeOf t h = FX10_placeOf s h
      · right
        obtain ⟨d1, d2, d3⟩ := c3
        have CC : ¬ FX10_placeOf t h = -2 ∧ FX10_placeOf s h = FX10_placeOf t h ∧ ¬ g 29 s.toNatClampNeg = g 29 t.toNatClampNeg ∧ (g 33 s.toNatClampNeg = FX10_placeOf t h ∨ g 33 t.toNatClampNeg = FX10_placeOf t h) ∧ FX4_isAhead s t h = 0 := by
          refine ⟨fun e => by rw [← d3, e, km] at d1; omega, d3.symm, c1, ?_, ah.mpr c2⟩
          rcases d2 with d2 | d2
          · left
            rw [d3]
            exact (a3 d2).symm
          · right
            exact (b3 d2).symm
        rw [if_pos CC, if_pos (show 0 ≤ (FX10_placeOf s h).toInt ∧ (0 ≤ (g 33 s.toNatClampNeg).toInt ∨ 0 ≤ (g 33 t.toNatClampNeg).toInt) ∧ FX10_placeOf t h = FX10_placeOf s h from ⟨d1, d2, d3⟩)]
        exact ⟨rfl, by rw [Int32.lt_iff_toInt_lt, k0]; omega, d3.symm⟩
      · left
        have NC : ¬ (¬ FX10_placeOf t h = -2 ∧ FX10_placeOf s h = FX10_placeOf t h ∧ ¬ g 29 s.toNatClampNeg = g 29 t.toNatClampNeg ∧ (g 33 s.toNatClampNeg = FX10_placeOf t h ∨ g 33 t.toNatClampNeg = FX10_placeOf t h) ∧ FX4_isAhead s t h = 0) := fun w => c3 (by
          obtain ⟨w1, w2, w3, w4, w5⟩ := w
          have p0 : 0 ≤ (FX10_placeOf t h).toInt := b2.elim (fun e => absurd e w1) id
          refine ⟨by rw [w2]; exact p0, ?_, w2.symm⟩
          rcases w4 with w4 | w4
          · left
            rw [w4]
            exact p0
          · right
            rw [w4]
            exact p0)
        rw [if_neg c3, if_neg NC]
        exact ⟨rfl, by decide⟩
end MG_48_x66H9
section MG_48_x67F4
def pE (k i : Nat) : Bool := match k with
  | 47 => i == 5 || i == 6
  | 48 => true
  | 51 => true
  | _ => false
theorem pE_57 (n i : Nat) : pE (57 + n) i = false := by
  unfold pE
  split <;> first | omega | rfl
theorem frE_FX11_code {h0 : ph_H} (a0 : Int32) (a1 : Int32) (a2 : Int32) (a3 : Int32) (a4 : Int32) (h : ph_H) (e : EQ pE h0 h) : EQ pE h0 (FX11_code a0 a1 a2 a3 a4 h).2 := (EQ2_if e (EQ2_if e (EQ2_if (EQ2_if (EQ_s rfl (EQ_s rfl (EQ_s rfl (EQ_s rfl (EQ_s rfl e))))) e) e)))
theorem frE_FX11_clear {h0 : ph_H} (a0 : Int32) (h : ph_H) (e : EQ pE h0 h) : EQ pE h0 (FX11_clear a0 h).2 := (EQ2_if e (EQ_s rfl e))
theorem frE_FX11_cell {h0 : ph_H} (a0 : Int32) (a1 : Int32) (h : ph_H) (e : EQ pE h0 h) : EQ pE h0 (FX11_cell a0 a1 h).2 := (EQ2_if e (EQ_s rfl e))
theorem frE_FX11_input {h0 : ph_H} (a0 : Int32) (h : ph_H) (e : EQ pE h0 h) : EQ pE h0 (FX11_input a0 h).2 := (EQ2_if (EQ_s rfl (EQ_s rfl e)) e)
theorem frE_FX11_turn {h0 : ph_H} (a0 : Int32) (a1 : Int32) (h : ph_H) (e : EQ pE h0 h) : EQ pE h0 (FX11_turn a0 a1 h).2 := (EQ2_if e (EQ2_if e (EQ2_if (EQ2_if (EQ_s rfl (EQ_s rfl (EQ_s rfl e))) e) e)))
theorem frE_FX11_freely {h0 : ph_H}  (h : ph_H) (e : EQ pE h0 h) : EQ pE h0 (FX11_freely h).2 := (EQ_s rfl e)
theorem frE_FX3_hold_s {h0 : ph_H} (a0 : Int32) (a1 : Int32) (a2 : Int32) (h : ph_H) (e : EQ pE h0 h) : EQ pE h0 (FX3_hold_s a0 a1 a2 h).2 := (EQ_s rfl (EQ_s rfl e))
theorem frE_FX3_getCell_s {h0 : ph_H} (a0 : Int32) (a1 : Int32) (h : ph_H) (e : EQ pE h0 h) : EQ pE h0 (FX3_getCell_s a0 a1 h).2 := (frE_FX3_hold_s _ _ _  _ (EQ_s rfl e))
theorem frE_FX3_goTo_s {h0 : ph_H} (a0 : Int32) (h : ph_H) (e : EQ pE h0 h) : EQ pE h0 (FX3_goTo_s a0 h).2 := (EQ_s rfl e)
theorem frE_FX3_goUnless_s_25 {h0 : ph_H} (s0 : Int32) (h : ph_H) (e : EQ pE h0 h) : EQ pE h0 (FX3_goUnless_s_25 s0 h).2 := e
theorem frE_FX3_goUnless_s {h0 : ph_H} (a0 : Int32) (a1 : Int32) (h : ph_H) (e : EQ pE h0 h) : EQ pE h0 (FX3_goUnless_s a0 a1 h).2 := (EQ2_if (EQ2_if (frE_FX3_goUnless_s_25 _  _ (frE_FX3_goTo_s _  _ e)) e) e)
theorem frE_FX3_free_s {h0 : ph_H} (a0 : Int32) (h : ph_H) (e : EQ pE h0 h) : EQ pE h0 (FX3_free_s a0 h).2 := (EQ_s rfl (EQ_s rfl (EQ_s rfl e)))
theorem frE_FX3_leaveLock_s {h0 : ph_H} (a0 : Int32) (a1 : Int32) (h : ph_H) (e : EQ pE h0 h) : EQ pE h0 (FX3_leaveLock_s a0 a1 h).2 := (EQ2_if (EQ2_if (frE_FX3_free_s _  _ e) e) e)
theorem frE_FX3_lieDown_s {h0 : ph_H} (a0 : Int32) (a1 : Int32) (h : ph_H) (e : EQ pE h0 h) : EQ pE h0 (FX3_lieDown_s a0 a1 h).2 := (EQ2_if (EQ2_if (frE_FX3_free_s _  _ (EQ_s rfl (EQ_s rfl (EQ_s rfl e)))) e) e)
theorem frE_FX3_makeThing_s {h0 : ph_H} (a0 : Int32) (a1 : Int32) (a2 : Int32) (h : ph_H) (e : EQ pE h0 h) : EQ pE h0 (FX3_makeThing_s a0 a1 a2 h).2 := (EQ_s rfl (EQ_s rfl (EQ_s rfl (EQ_s rfl (EQ_s rfl (EQ_s rfl e))))))
theorem frE_FX3_makeLock_s_22 {h0 : ph_H} (s0 : Int32) (s1 : Int32) (h : ph_H) (e : EQ pE h0 h) : EQ pE h0 (FX3_makeLock_s_22 s0 s1 h).2 := (frE_FX3_makeThing_s _ _ _  _ e)
theorem frE_FX3_makeLock_s {h0 : ph_H} (a0 : Int32) (a1 : Int32) (h : ph_H) (e : EQ pE h0 h) : EQ pE h0 (FX3_makeLock_s a0 a1 h).2 := (EQ2_if (EQ2_if (frE_FX3_makeLock_s_22 _ _  _ e) (frE_FX3_makeLock_s_22 _ _  _ e)) e)
theorem frE_FX3_makeRow_s_44 {h0 : ph_H}  : ∀ (q : Nat) (y0 : Int32) (y1 : Int32) (y2 : Int32) (h : ph_H), EQ pE h0 h → EQ pE h0 (FX3_makeRow_s_44  q y0 y1 y2 h).2 := by
  intro q
  induction q with
  | zero =>
    intro y0 y1 y2 h e
    exact e
  | succ q ih =>
    intro y0 y1 y2 h e
    exact (EQ2_if (frE_FX3_makeThing_s _ _ _  _ e) (ih _ _ _ _ (EQ_s rfl e)))
theorem frE_FX3_makeRow_s {h0 : ph_H} (a0 : Int32) (a1 : Int32) (h : ph_H) (e : EQ pE h0 h) : EQ pE h0 (FX3_makeRow_s a0 a1 h).2 := (EQ2_if (EQ2_if (EQ2_if e (EQ2_if (frE_FX3_makeRow_s_44   _ _ _ _ _ e) e)) e) e)
theorem frE_FX3_putCell_s {h0 : ph_H} (a0 : Int32) (a1 : Int32) (h : ph_H) (e : EQ pE h0 h) : EQ pE h0 (FX3_putCell_s a0 a1 h).2 := (frE_FX3_hold_s _ _ _  _ (EQ_s rfl e))
theorem frE_FX3_readRow_s {h0 : ph_H} (a0 : Int32) (a1 : Int32) (a2 : Int32) (h : ph_H) (e : EQ pE h0 h) : EQ pE h0 (FX3_readRow_s a0 a1 a2 h).2 := (EQ2_if (EQ2_if (EQ2_if e (frE_FX3_hold_s _ _ _  _ (EQ_s rfl e))) e) e)
theorem frE_FX3_reckon_s_58 {h0 : ph_H} (x2 : Int32) (s0 : Int32) (h : ph_H) (e : EQ pE h0 h) : EQ pE h0 (FX3_reckon_s_58 x2 s0 h).2 := (frE_FX3_hold_s _ _ _  _ e)
theorem frE_FX3_reckon_s {h0 : ph_H} (a0 : Int32) (a1 : Int32) (a2 : Int32) (h : ph_H) (e : EQ pE h0 h) : EQ pE h0 (FX3_reckon_s a0 a1 a2 h).2 := (EQ2_if e (EQ2_if (frE_FX3_reckon_s_58 _ _  _ e) (EQ2_if (frE_FX3_reckon_s_58 _ _  _ e) (frE_FX3_reckon_s_58 _ _  _ e))))
theorem frE_FX3_startThread_s {h0 : ph_H} (a0 : Int32) (h : ph_H) (e : EQ pE h0 h) : EQ pE h0 (FX3_startThread_s a0 h).2 := (EQ2_if (EQ_s rfl (EQ_s rfl (EQ_s rfl e))) e)
theorem frE_FX3_takeInput_s {h0 : ph_H} (a0 : Int32) (h : ph_H) (e : EQ pE h0 h) : EQ pE h0 (FX3_takeInput_s a0 h).2 := (EQ2_if e (EQ2_if (frE_FX3_hold_s _ _ _  _ (EQ_s rfl e)) e))
theorem frE_FX3_own_s {h0 : ph_H} (a0 : Int32) (a1 : Int32) (h : ph_H) (e : EQ pE h0 h) : EQ pE h0 (FX3_own_s a0 a1 h).2 := (EQ_s rfl (EQ_s rfl (EQ_s rfl e)))
theorem frE_FX3_takeLock_s {h0 : ph_H} (a0 : Int32) (a1 : Int32) (h : ph_H) (e : EQ pE h0 h) : EQ pE h0 (FX3_takeLock_s a0 a1 h).2 := (EQ2_if (EQ2_if e (frE_FX3_own_s _ _  _ e)) e)
theorem frE_FX3_wakeSleepers_s_64 {h0 : ph_H} (L28 : Int32 → Int32 → ph_H → Int32 × ph_H) (x3 : Int32) (x4 : Int32) (hL28 : ∀ (y0 : Int32) (y1 : Int32) (h : ph_H), EQ pE h0 h → EQ pE h0 (L28 y0 y1 h).2) (h : ph_H) (e : EQ pE h0 h) : EQ pE h0 (FX3_wakeSleepers_s_64 L28 x3 x4 h).2 := (hL28 _ _ _ e)
theorem frE_FX3_wakeSleepers_s_28 {h0 : ph_H}  : ∀ (q : Nat) (y0 : Int32) (y1 : Int32) (h : ph_H), EQ pE h0 h → EQ pE h0 (FX3_wakeSleepers_s_28  q y0 y1 h).2 := by
  intro q
  induction q with
  | zero =>
    intro y0 y1 h e
    exact e
  | succ q ih =>
    intro y0 y1 h e
    exact (EQ2_if (EQ_s rfl e) (EQ2_if (EQ2_if (frE_FX3_wakeSleepers_s_64 _ _ _ ih _ (EQ_s rfl e)) (frE_FX3_wakeSleepers_s_64 _ _ _ ih _ e)) (frE_FX3_wakeSleepers_s_64 _ _ _ ih _ e)))
theorem frE_FX3_wakeSleepers_s {h0 : ph_H} (a0 : Int32) (a1 : Int32) (h : ph_H) (e : EQ pE h0 h) : EQ pE h0 (FX3_wakeSleepers_s a0 a1 h).2 := (EQ2_if (EQ2_if (frE_FX3_wakeSleepers_s_28   _ _ _ _ e) e) e)
theorem frE_FX3_writeRow_s {h0 : ph_H} (a0 : Int32) (a1 : Int32) (a2 : Int32) (h : ph_H) (e : EQ pE h0 h) : EQ pE h0 (FX3_writeRow_s a0 a1 a2 h).2 := (EQ2_if (EQ2_if e (EQ2_if e (EQ_s rfl (EQ_s rfl e)))) e)
theorem frE_FX3_perform_s_288 {h0 : ph_H} (s0 : Int32) (s1 : Int32) (h : ph_H) (e : EQ pE h0 h) : EQ pE h0 (FX3_perform_s_288 s0 s1 h).2 := (frE_FX3_makeLock_s _ _  _ e)
theorem frE_FX3_perform_s {h0 : ph_H} (a0 : Int32) (h : ph_H) (e : EQ pE h0 h) : EQ pE h0 (FX3_perform_s a0 h).2 := (EQ2_if (frE_FX3_hold_s _ _ _  _ e) (EQ2_if (frE_FX3_getCell_s _ _  _ e) (EQ2_if (frE_FX3_putCell_s _ _  _ e) (EQ2_if (frE_FX3_reckon_s _ _ _  _ e) (EQ2_if (frE_FX3_reckon_s _ _ _  _ e) (EQ2_if (frE_FX3_reckon_s _ _ _  _ e) (EQ2_if (frE_FX3_goTo_s _  _ e) (EQ2_if (frE_FX3_goUnless_s _ _  _ e) (EQ2_if (frE_FX3_makeRow_s _ _  _ e) (EQ2_if (frE_FX3_readRow_s _ _ _  _ e) (EQ2_if (frE_FX3_writeRow_s _ _ _  _ e) (EQ2_if (EQ2_if (frE_FX3_perform_s_288 _ _  _ e) (frE_FX3_perform_s_288 _ _  _ e)) (EQ2_if (frE_FX3_takeLock_s _ _  _ e) (EQ2_if (frE_FX3_leaveLock_s _ _  _ e) (EQ2_if (frE_FX3_lieDown_s _ _  _ e) (EQ2_if (frE_FX3_wakeSleepers_s _ _  _ e) (EQ2_if (frE_FX3_takeInput_s _  _ e) (EQ2_if (frE_FX3_startThread_s _  _ e) (EQ2_if e (frE_FX3_goTo_s _  _ e))))))))))))))))))))
theorem frE_FX3_rise_s {h0 : ph_H} (a0 : Int32) (h : ph_H) (e : EQ pE h0 h) : EQ pE h0 (FX3_rise_s a0 h).2 := (frE_FX3_own_s _ _  _ (EQ_s rfl e))
theorem frE_FX3_go_s_67 {h0 : ph_H} (x1 : Int32) (s0 : Int32) (h : ph_H) (e : EQ pE h0 h) : EQ pE h0 (FX3_go_s_67 x1 s0 h).2 := (EQ2_if (EQ_s rfl e) e)
theorem frE_FX3_go_s_59 {h0 : ph_H} (x1 : Int32) (s0 : Int32) (h : ph_H) (e : EQ pE h0 h) : EQ pE h0 (FX3_go_s_59 x1 s0 h).2 := (frE_FX3_go_s_67 _ _  _ e)
theorem frE_FX3_go_s {h0 : ph_H} (a0 : Int32) (h : ph_H) (e : EQ pE h0 h) : EQ pE h0 (FX3_go_s a0 h).2 := (EQ2_if e (EQ2_if (frE_FX3_go_s_59 _ _  _ (frE_FX3_rise_s _  _ (EQ_s rfl (EQ_s rfl (EQ_s rfl (EQ_s rfl (EQ_s rfl e))))))) (frE_FX3_go_s_67 _ _  _ (frE_FX3_perform_s _  _ (EQ_s rfl (EQ_s rfl (EQ_s rfl (EQ_s rfl (EQ_s rfl e)))))))))
theorem frE_FJ7_fill_53178_k16_5 {h0 : ph_H}  : ∀ (q : Nat) (y0 : Int32) (y1 : Int32) (y2 : Int32) (h : ph_H), EQ pE h0 h → EQ pE h0 (FJ7_fill_53178_k16_5  q y0 y1 y2 h) := by
  intro q
  induction q with
  | zero =>
    intro y0 y1 y2 h e
    exact e
  | succ q ih =>
    intro y0 y1 y2 h e
    exact (EQ_if e (ih _ _ _ _ (EQ_s rfl e)))
theorem frE_FJ7_fill_53178_k16 {h0 : ph_H} (a1 : Int32) (h : ph_H) (e : EQ pE h0 h) : EQ pE h0 (FJ7_fill_53178_k16 a1 h) := (frE_FJ7_fill_53178_k16_5   _ _ _ _ _ e)
theorem frE_FJ7_fill_53178_k17_5 {h0 : ph_H}  : ∀ (q : Nat) (y0 : Int32) (y1 : Int32) (y2 : Int32) (h : ph_H), EQ pE h0 h → EQ pE h0 (FJ7_fill_53178_k17_5  q y0 y1 y2 h) := by
  intro q
  induction q with
  | zero =>
    intro y0 y1 y2 h e
    exact e
  | succ q ih =>
    intro y0 y1 y2 h e
    exact (EQ_if e (ih _ _ _ _ (EQ_s rfl e)))
theorem frE_FJ7_fill_53178_k17 {h0 : ph_H} (a1 : Int32) (h : ph_H) (e : EQ pE h0 h) : EQ pE h0 (FJ7_fill_53178_k17 a1 h) := (frE_FJ7_fill_53178_k17_5   _ _ _ _ _ e)
theorem frE_FJ7_fill_53178_k18_5 {h0 : ph_H}  : ∀ (q : Nat) (y0 : Int32) (y1 : Int32) (y2 : Int32) (h : ph_H), EQ pE h0 h → EQ pE h0 (FJ7_fill_53178_k18_5  q y0 y1 y2 h) := by
  intro q
  induction q with
  | zero =>
    intro y0 y1 y2 h e
    exact e
  | succ q ih =>
    intro y0 y1 y2 h e
    exact (EQ_if e (ih _ _ _ _ (EQ_s rfl e)))
theorem frE_FJ7_fill_53178_k18 {h0 : ph_H} (a1 : Int32) (h : ph_H) (e : EQ pE h0 h) : EQ pE h0 (FJ7_fill_53178_k18 a1 h) := (frE_FJ7_fill_53178_k18_5   _ _ _ _ _ e)
theorem frE_FJ7_fill_53178_k19_5 {h0 : ph_H}  : ∀ (q : Nat) (y0 : Int32) (y1 : Int32) (y2 : Int32) (h : ph_H), EQ pE h0 h → EQ pE h0 (FJ7_fill_53178_k19_5  q y0 y1 y2 h) := by
  intro q
  induction q with
  | zero =>
    intro y0 y1 y2 h e
    exact e
  | succ q ih =>
    intro y0 y1 y2 h e
    exact (EQ_if e (ih _ _ _ _ (EQ_s rfl e)))
theorem frE_FJ7_fill_53178_k19 {h0 : ph_H} (a1 : Int32) (h : ph_H) (e : EQ pE h0 h) : EQ pE h0 (FJ7_fill_53178_k19 a1 h) := (frE_FJ7_fill_53178_k19_5   _ _ _ _ _ e)
theorem frE_FX3_begin_st_52 {h0 : ph_H} (x2 : Int32) (h : ph_H) (e : EQ pE h0 h) : EQ pE h0 (FX3_begin_st_52 x2 h) := (EQ_s rfl (EQ_s rfl (EQ_s rfl (EQ_s rfl e))))
theorem frE_FX3_begin_st_44 {h0 : ph_H} (x2 : Int32) (h : ph_H) (e : EQ pE h0 h) : EQ pE h0 (FX3_begin_st_44 x2 h) := (frE_FX3_begin_st_52 _  _ (frE_FJ7_fill_53178_k19 _  _ e))
theorem frE_FX3_begin_st_21 {h0 : ph_H} (x2 : Int32) (h : ph_H) (e : EQ pE h0 h) : EQ pE h0 (FX3_begin_st_21 x2 h) := (frE_FX3_begin_st_44 _  _ (frE_FJ7_fill_53178_k18 _  _ (EQ_c (fun _ => rfl) e)))
theorem frE_FX3_begin_st_13 {h0 : ph_H} (x2 : Int32) (h : ph_H) (e : EQ pE h0 h) : EQ pE h0 (FX3_begin_st_13 x2 h) := (frE_FX3_begin_st_21 _  _ (frE_FJ7_fill_53178_k17 _  _ e))
theorem frE_FX3_begin_st {h0 : ph_H} (a1 : Int32) (h : ph_H) (e : EQ pE h0 h) : EQ pE h0 (FX3_begin_st a1 h) := (frE_FX3_begin_st_13 _  _ (frE_FJ7_fill_53178_k16 _  _ e))
theorem frE_FX3_hold_oc1 {h0 : ph_H} (a0 : Int32) (a1 : Int32) (a2 : Int32) (h : ph_H) (e : EQ pE h0 h) : EQ pE h0 (FX3_hold_oc1 a0 a1 a2 h).2 := (EQ_s rfl (EQ_s rfl e))
theorem frE_FX3_getCell_oc1 {h0 : ph_H} (a0 : Int32) (a1 : Int32) (h : ph_H) (e : EQ pE h0 h) : EQ pE h0 (FX3_getCell_oc1 a0 a1 h).2 := (frE_FX3_hold_oc1 _ _ _  _ (EQ_s rfl e))
theorem frE_FX3_goTo_oc1 {h0 : ph_H} (a0 : Int32) (h : ph_H) (e : EQ pE h0 h) : EQ pE h0 (FX3_goTo_oc1 a0 h).2 := (EQ_s rfl e)
theorem frE_FX3_goUnless_oc1_25 {h0 : ph_H} (s0 : Int32) (h : ph_H) (e : EQ pE h0 h) : EQ pE h0 (FX3_goUnless_oc1_25 s0 h).2 := e
theorem frE_FX3_goUnless_oc1 {h0 : ph_H} (a0 : Int32) (a1 : Int32) (h : ph_H) (e : EQ pE h0 h) : EQ pE h0 (FX3_goUnless_oc1 a0 a1 h).2 := (EQ2_if (EQ2_if (frE_FX3_goUnless_oc1_25 _  _ (frE_FX3_goTo_oc1 _  _ e)) e) e)
theorem frE_FX3_free_oc1 {h0 : ph_H} (a0 : Int32) (h : ph_H) (e : EQ pE h0 h) : EQ pE h0 (FX3_free_oc1 a0 h).2 := (EQ_s rfl (EQ_s rfl (EQ_s rfl e)))
theorem frE_FX3_leaveLock_oc1 {h0 : ph_H} (a0 : Int32) (a1 : Int32) (h : ph_H) (e : EQ pE h0 h) : EQ pE h0 (FX3_leaveLock_oc1 a0 a1 h).2 := (EQ2_if (EQ2_if (frE_FX3_free_oc1 _  _ e) e) e)
theorem frE_FX3_lieDown_oc1 {h0 : ph_H} (a0 : Int32) (a1 : Int32) (h : ph_H) (e : EQ pE h0 h) : EQ pE h0 (FX3_lieDown_oc1 a0 a1 h).2 := (EQ2_if (EQ2_if (frE_FX3_free_oc1 _  _ (EQ_s rfl (EQ_s rfl (EQ_s rfl e)))) e) e)
theorem frE_FX3_makeThing_oc1 {h0 : ph_H} (a0 : Int32) (a1 : Int32) (a2 : Int32) (h : ph_H) (e : EQ pE h0 h) : EQ pE h0 (FX3_makeThing_oc1 a0 a1 a2 h).2 := (EQ_s rfl (EQ_s rfl (EQ_s rfl (EQ_s rfl (EQ_s rfl (EQ_s rfl e))))))
theorem frE_FX3_makeLock_oc1_22 {h0 : ph_H} (s0 : Int32) (s1 : Int32) (h : ph_H) (e : EQ pE h0 h) : EQ pE h0 (FX3_makeLock_oc1_22 s0 s1 h).2 := (frE_FX3_makeThing_oc1 _ _ _  _ e)
theorem frE_FX3_makeLock_oc1 {h0 : ph_H} (a0 : Int32) (a1 : Int32) (h : ph_H) (e : EQ pE h0 h) : EQ pE h0 (FX3_makeLock_oc1 a0 a1 h).2 := (EQ2_if (EQ2_if (frE_FX3_makeLock_oc1_22 _ _  _ e) (frE_FX3_makeLock_oc1_22 _ _  _ e)) e)
theorem frE_FX3_makeRow_oc1_44 {h0 : ph_H}  : ∀ (q : Nat) (y0 : Int32) (y1 : Int32) (y2 : Int32) (h : ph_H), EQ pE h0 h → EQ pE h0 (FX3_makeRow_oc1_44  q y0 y1 y2 h).2 := by
  intro q
  induction q with
  | zero =>
    intro y0 y1 y2 h e
    exact e
  | succ q ih =>
    intro y0 y1 y2 h e
    exact (EQ2_if (frE_FX3_makeThing_oc1 _ _ _  _ e) (ih _ _ _ _ (EQ_s rfl e)))
theorem frE_FX3_makeRow_oc1 {h0 : ph_H} (a0 : Int32) (a1 : Int32) (h : ph_H) (e : EQ pE h0 h) : EQ pE h0 (FX3_makeRow_oc1 a0 a1 h).2 := (EQ2_if (EQ2_if (EQ2_if e (EQ2_if (frE_FX3_makeRow_oc1_44   _ _ _ _ _ e) e)) e) e)
theorem frE_FX3_putCell_oc1 {h0 : ph_H} (a0 : Int32) (a1 : Int32) (h : ph_H) (e : EQ pE h0 h) : EQ pE h0 (FX3_putCell_oc1 a0 a1 h).2 := (frE_FX3_hold_oc1 _ _ _  _ (EQ_s rfl e))
theorem frE_FX3_readRow_oc1 {h0 : ph_H} (a0 : Int32) (a1 : Int32) (a2 : Int32) (h : ph_H) (e : EQ pE h0 h) : EQ pE h0 (FX3_readRow_oc1 a0 a1 a2 h).2 := (EQ2_if (EQ2_if (EQ2_if e (frE_FX3_hold_oc1 _ _ _  _ (EQ_s rfl e))) e) e)
theorem frE_FX3_reckon_oc1_58 {h0 : ph_H} (x2 : Int32) (s0 : Int32) (h : ph_H) (e : EQ pE h0 h) : EQ pE h0 (FX3_reckon_oc1_58 x2 s0 h).2 := (frE_FX3_hold_oc1 _ _ _  _ e)
theorem frE_FX3_reckon_oc1 {h0 : ph_H} (a0 : Int32) (a1 : Int32) (a2 : Int32) (h : ph_H) (e : EQ pE h0 h) : EQ pE h0 (FX3_reckon_oc1 a0 a1 a2 h).2 := (EQ2_if e (EQ2_if (frE_FX3_reckon_oc1_58 _ _  _ e) (EQ2_if (frE_FX3_reckon_oc1_58 _ _  _ e) (frE_FX3_reckon_oc1_58 _ _  _ e))))
theorem frE_FX3_startThread_oc1 {h0 : ph_H} (a0 : Int32) (h : ph_H) (e : EQ pE h0 h) : EQ pE h0 (FX3_startThread_oc1 a0 h).2 := (EQ2_if (EQ_s rfl (EQ_s rfl (EQ_s rfl e))) e)
theorem frE_FX3_takeInput_oc1 {h0 : ph_H} (a0 : Int32) (h : ph_H) (e : EQ pE h0 h) : EQ pE h0 (FX3_takeInput_oc1 a0 h).2 := (EQ2_if e (EQ2_if (frE_FX3_hold_oc1 _ _ _  _ (EQ_s rfl e)) e))
theorem frE_FX3_own_oc1 {h0 : ph_H} (a0 : Int32) (a1 : Int32) (h : ph_H) (e : EQ pE h0 h) : EQ pE h0 (FX3_own_oc1 a0 a1 h).2 := (EQ_s rfl (EQ_s rfl (EQ_s rfl e)))
theorem frE_FX3_takeLock_oc1 {h0 : ph_H} (a0 : Int32) (a1 : Int32) (h : ph_H) (e : EQ pE h0 h) : EQ pE h0 (FX3_takeLock_oc1 a0 a1 h).2 := (EQ2_if (EQ2_if e (frE_FX3_own_oc1 _ _  _ e)) e)
theorem frE_FX3_wakeSleepers_oc1_64 {h0 : ph_H} (L28 : Int32 → Int32 → ph_H → Int32 × ph_H) (x3 : Int32) (x4 : Int32) (hL28 : ∀ (y0 : Int32) (y1 : Int32) (h : ph_H), EQ pE h0 h → EQ pE h0 (L28 y0 y1 h).2) (h : ph_H) (e : EQ pE h0 h) : EQ pE h0 (FX3_wakeSleepers_oc1_64 L28 x3 x4 h).2 := (hL28 _ _ _ e)
theorem frE_FX3_wakeSleepers_oc1_28 {h0 : ph_H}  : ∀ (q : Nat) (y0 : Int32) (y1 : Int32) (h : ph_H), EQ pE h0 h → EQ pE h0 (FX3_wakeSleepers_oc1_28  q y0 y1 h).2 := by
  intro q
  induction q with
  | zero =>
    intro y0 y1 h e
    exact e
  | succ q ih =>
    intro y0 y1 h e
    exact (EQ2_if (EQ_s rfl e) (EQ2_if (EQ2_if (frE_FX3_wakeSleepers_oc1_64 _ _ _ ih _ (EQ_s rfl e)) (frE_FX3_wakeSleepers_oc1_64 _ _ _ ih _ e)) (frE_FX3_wakeSleepers_oc1_64 _ _ _ ih _ e)))
theorem frE_FX3_wakeSleepers_oc1 {h0 : ph_H} (a0 : Int32) (a1 : Int32) (h : ph_H) (e : EQ pE h0 h) : EQ pE h0 (FX3_wakeSleepers_oc1 a0 a1 h).2 := (EQ2_if (EQ2_if (frE_FX3_wakeSleepers_oc1_28   _ _ _ _ e) e) e)
theorem frE_FX3_writeRow_oc1 {h0 : ph_H} (a0 : Int32) (a1 : Int32) (a2 : Int32) (h : ph_H) (e : EQ pE h0 h) : EQ pE h0 (FX3_writeRow_oc1 a0 a1 a2 h).2 := (EQ2_if (EQ2_if e (EQ2_if e (EQ_s rfl (EQ_s rfl e)))) e)
theorem frE_FX3_perform_oc1_288 {h0 : ph_H} (s0 : Int32) (s1 : Int32) (h : ph_H) (e : EQ pE h0 h) : EQ pE h0 (FX3_perform_oc1_288 s0 s1 h).2 := (frE_FX3_makeLock_oc1 _ _  _ e)
theorem frE_FX3_perform_oc1 {h0 : ph_H} (a0 : Int32) (h : ph_H) (e : EQ pE h0 h) : EQ pE h0 (FX3_perform_oc1 a0 h).2 := (EQ2_if (frE_FX3_hold_oc1 _ _ _  _ e) (EQ2_if (frE_FX3_getCell_oc1 _ _  _ e) (EQ2_if (frE_FX3_putCell_oc1 _ _  _ e) (EQ2_if (frE_FX3_reckon_oc1 _ _ _  _ e) (EQ2_if (frE_FX3_reckon_oc1 _ _ _  _ e) (EQ2_if (frE_FX3_reckon_oc1 _ _ _  _ e) (EQ2_if (frE_FX3_goTo_oc1 _  _ e) (EQ2_if (frE_FX3_goUnless_oc1 _ _  _ e) (EQ2_if (frE_FX3_makeRow_oc1 _ _  _ e) (EQ2_if (frE_FX3_readRow_oc1 _ _ _  _ e) (EQ2_if (frE_FX3_writeRow_oc1 _ _ _  _ e) (EQ2_if (EQ2_if (frE_FX3_perform_oc1_288 _ _  _ e) (frE_FX3_perform_oc1_288 _ _  _ e)) (EQ2_if (frE_FX3_takeLock_oc1 _ _  _ e) (EQ2_if (frE_FX3_leaveLock_oc1 _ _  _ e) (EQ2_if (frE_FX3_lieDown_oc1 _ _  _ e) (EQ2_if (frE_FX3_wakeSleepers_oc1 _ _  _ e) (EQ2_if (frE_FX3_takeInput_oc1 _  _ e) (EQ2_if (frE_FX3_startThread_oc1 _  _ e) (EQ2_if e (frE_FX3_goTo_oc1 _  _ e))))))))))))))))))))
theorem frE_FX3_rise_oc1 {h0 : ph_H} (a0 : Int32) (h : ph_H) (e : EQ pE h0 h) : EQ pE h0 (FX3_rise_oc1 a0 h).2 := (frE_FX3_own_oc1 _ _  _ (EQ_s rfl e))
theorem frE_FX3_go_oc1_67 {h0 : ph_H} (x1 : Int32) (s0 : Int32) (h : ph_H) (e : EQ pE h0 h) : EQ pE h0 (FX3_go_oc1_67 x1 s0 h).2 := (EQ2_if (EQ_s rfl e) e)
theorem frE_FX3_go_oc1_59 {h0 : ph_H} (x1 : Int32) (s0 : Int32) (h : ph_H) (e : EQ pE h0 h) : EQ pE h0 (FX3_go_oc1_59 x1 s0 h).2 := (frE_FX3_go_oc1_67 _ _  _ e)
theorem frE_FX3_go_oc1 {h0 : ph_H} (a0 : Int32) (h : ph_H) (e : EQ pE h0 h) : EQ pE h0 (FX3_go_oc1 a0 h).2 := (EQ2_if e (EQ2_if (frE_FX3_go_oc1_59 _ _  _ (frE_FX3_rise_oc1 _  _ (EQ_s rfl (EQ_s rfl (EQ_s rfl (EQ_s rfl (EQ_s rfl e))))))) (frE_FX3_go_oc1_67 _ _  _ (frE_FX3_perform_oc1 _  _ (EQ_s rfl (EQ_s rfl (EQ_s rfl (EQ_s rfl (EQ_s rfl e)))))))))
theorem frE_FX11_goByRecordc1_120 {h0 : ph_H} (L37 : Int32 → Int32 → Int32 → Int32 → ph_H → Int32 × ph_H) (x1 : Int32) (x2 : Int32) (x3 : Int32) (x4 : Int32) (s0 : Int32) (hL37 : ∀ (y0 : Int32) (y1 : Int32) (y2 : Int32) (y3 : Int32) (h : ph_H), EQ pE h0 h → EQ pE h0 (L37 y0 y1 y2 y3 h).2) (h : ph_H) (e : EQ pE h0 h) : EQ pE h0 (FX11_goByRecordc1_120 L37 x1 x2 x3 x4 s0 h).2 := (EQ2_if e (EQ2_if e (EQ2_if (hL37 _ _ _ _ _ (EQ_s rfl e)) (EQ_s rfl e))))
theorem frE_FX11_goByRecordc1_106 {h0 : ph_H} (L37 : Int32 → Int32 → Int32 → Int32 → ph_H → Int32 × ph_H) (x1 : Int32) (x2 : Int32) (x3 : Int32) (x4 : Int32) (hL37 : ∀ (y0 : Int32) (y1 : Int32) (y2 : Int32) (y3 : Int32) (h : ph_H), EQ pE h0 h → EQ pE h0 (L37 y0 y1 y2 y3 h).2) (h : ph_H) (e : EQ pE h0 h) : EQ pE h0 (FX11_goByRecordc1_106 L37 x1 x2 x3 x4 h).2 := (EQ2_if (frE_FX11_goByRecordc1_120 _ _ _ _ _ _ hL37 _ (frE_FX3_go_oc1 _  _ e)) e)
theorem frE_FX11_goByRecordc1_88 {h0 : ph_H} (L37 : Int32 → Int32 → Int32 → Int32 → ph_H → Int32 × ph_H) (x1 : Int32) (x2 : Int32) (x3 : Int32) (x4 : Int32) (hL37 : ∀ (y0 : Int32) (y1 : Int32) (y2 : Int32) (y3 : Int32) (h : ph_H), EQ pE h0 h → EQ pE h0 (L37 y0 y1 y2 y3 h).2) (h : ph_H) (e : EQ pE h0 h) : EQ pE h0 (FX11_goByRecordc1_88 L37 x1 x2 x3 x4 h).2 := (EQ2_if (frE_FX11_goByRecordc1_106 _ _ _ _ _ hL37 _ e) (frE_FX11_goByRecordc1_106 _ _ _ _ _ hL37 _ e))
theorem frE_FX11_goByRecordc1_37 {h0 : ph_H}  : ∀ (q : Nat) (y0 : Int32) (y1 : Int32) (y2 : Int32) (y3 : Int32) (h : ph_H), EQ pE h0 h → EQ pE h0 (FX11_goByRecordc1_37  q y0 y1 y2 y3 h).2 := by
  intro q
  induction q with
  | zero =>
    intro y0 y1 y2 y3 h e
    exact e
  | succ q ih =>
    intro y0 y1 y2 y3 h e
    exact (EQ2_if (EQ2_if e e) (EQ2_if (frE_FX11_goByRecordc1_88 _ _ _ _ _ ih _ e) (EQ2_if (frE_FX11_goByRecordc1_88 _ _ _ _ _ ih _ e) (EQ2_if (frE_FX11_goByRecordc1_88 _ _ _ _ _ ih _ e) (frE_FX11_goByRecordc1_88 _ _ _ _ _ ih _ e)))))
theorem frE_FX11_goByRecordc1_30 {h0 : ph_H} (x1 : Int32) (x2 : Int32) (x3 : Int32) (s0 : Int32) (h : ph_H) (e : EQ pE h0 h) : EQ pE h0 (FX11_goByRecordc1_30 x1 x2 x3 s0 h).2 := (frE_FX11_goByRecordc1_37   _ _ _ _ _ _ (EQ_s rfl e))
theorem frE_FX11_goByRecordc1_29 {h0 : ph_H} (x1 : Int32) (x2 : Int32) (x3 : Int32) (h : ph_H) (e : EQ pE h0 h) : EQ pE h0 (FX11_goByRecordc1_29 x1 x2 x3 h).2 := (frE_FX11_goByRecordc1_30 _ _ _ _  _ e)
theorem frE_FX11_goByRecordc1 {h0 : ph_H} (a0 : Int32) (h : ph_H) (e : EQ pE h0 h) : EQ pE h0 (FX11_goByRecordc1 a0 h).2 := (EQ2_if (frE_FX11_goByRecordc1_29 _ _ _  _ e) (EQ2_if (frE_FX11_goByRecordc1_29 _ _ _  _ e) (frE_FX11_goByRecordc1_30 _ _ _ _  _ e)))
theorem frE_FJ7_fill_53178_k26_5 {h0 : ph_H}  : ∀ (q : Nat) (y0 : Int32) (y1 : Int32) (y2 : Int32) (h : ph_H), EQ pE h0 h → EQ pE h0 (FJ7_fill_53178_k26_5  q y0 y1 y2 h) := by
  intro q
  induction q with
  | zero =>
    intro y0 y1 y2 h e
    exact e
  | succ q ih =>
    intro y0 y1 y2 h e
    exact (EQ_if e (ih _ _ _ _ (EQ_s rfl e)))
theorem frE_FJ7_fill_53178_k26 {h0 : ph_H} (a1 : Int32) (h : ph_H) (e : EQ pE h0 h) : EQ pE h0 (FJ7_fill_53178_k26 a1 h) := (frE_FJ7_fill_53178_k26_5   _ _ _ _ _ e)
theorem frE_FJ7_fill_53178_k27_5 {h0 : ph_H}  : ∀ (q : Nat) (y0 : Int32) (y1 : Int32) (y2 : Int32) (h : ph_H), EQ pE h0 h → EQ pE h0 (FJ7_fill_53178_k27_5  q y0 y1 y2 h) := by
  intro q
  induction q with
  | zero =>
    intro y0 y1 y2 h e
    exact e
  | succ q ih =>
    intro y0 y1 y2 h e
    exact (EQ_if e (ih _ _ _ _ (EQ_s rfl e)))
theorem frE_FJ7_fill_53178_k27 {h0 : ph_H} (a1 : Int32) (h : ph_H) (e : EQ pE h0 h) : EQ pE h0 (FJ7_fill_53178_k27 a1 h) := (frE_FJ7_fill_53178_k27_5   _ _ _ _ _ e)
theorem frE_FJ7_fill_53178_k28_5 {h0 : ph_H}  : ∀ (q : Nat) (y0 : Int32) (y1 : Int32) (y2 : Int32) (h : ph_H), EQ pE h0 h → EQ pE h0 (FJ7_fill_53178_k28_5  q y0 y1 y2 h) := by
  intro q
  induction q with
  | zero =>
    intro y0 y1 y2 h e
    exact e
  | succ q ih =>
    intro y0 y1 y2 h e
    exact (EQ_if e (ih _ _ _ _ (EQ_s rfl e)))
theorem frE_FJ7_fill_53178_k28 {h0 : ph_H} (a1 : Int32) (h : ph_H) (e : EQ pE h0 h) : EQ pE h0 (FJ7_fill_53178_k28 a1 h) := (frE_FJ7_fill_53178_k28_5   _ _ _ _ _ e)
theorem frE_FJ7_fill_53178_k29_5 {h0 : ph_H}  : ∀ (q : Nat) (y0 : Int32) (y1 : Int32) (y2 : Int32) (h : ph_H), EQ pE h0 h → EQ pE h0 (FJ7_fill_53178_k29_5  q y0 y1 y2 h) := by
  intro q
  induction q with
  | zero =>
    intro y0 y1 y2 h e
    exact e
  | succ q ih =>
    intro y0 y1 y2 h e
    exact (EQ_if e (ih _ _ _ _ (EQ_s rfl e)))
theorem frE_FJ7_fill_53178_k29 {h0 : ph_H} (a1 : Int32) (h : ph_H) (e : EQ pE h0 h) : EQ pE h0 (FJ7_fill_53178_k29 a1 h) := (frE_FJ7_fill_53178_k29_5   _ _ _ _ _ e)
theorem frE_FX3_begin_on_52 {h0 : ph_H} (x2 : Int32) (h : ph_H) (e : EQ pE h0 h) : EQ pE h0 (FX3_begin_on_52 x2 h) := (EQ_s rfl (EQ_s rfl (EQ_s rfl (EQ_s rfl e))))
theorem frE_FX3_begin_on_44 {h0 : ph_H} (x2 : Int32) (h : ph_H) (e : EQ pE h0 h) : EQ pE h0 (FX3_begin_on_44 x2 h) := (frE_FX3_begin_on_52 _  _ (frE_FJ7_fill_53178_k29 _  _ e))
theorem frE_FX3_begin_on_21 {h0 : ph_H} (x2 : Int32) (h : ph_H) (e : EQ pE h0 h) : EQ pE h0 (FX3_begin_on_21 x2 h) := (frE_FX3_begin_on_44 _  _ (frE_FJ7_fill_53178_k28 _  _ (EQ_c (fun _ => rfl) e)))
theorem frE_FX3_begin_on_13 {h0 : ph_H} (x2 : Int32) (h : ph_H) (e : EQ pE h0 h) : EQ pE h0 (FX3_begin_on_13 x2 h) := (frE_FX3_begin_on_21 _  _ (frE_FJ7_fill_53178_k27 _  _ e))
theorem frE_FX3_begin_on {h0 : ph_H} (a1 : Int32) (h : ph_H) (e : EQ pE h0 h) : EQ pE h0 (FX3_begin_on a1 h) := (frE_FX3_begin_on_13 _  _ (frE_FJ7_fill_53178_k26 _  _ e))
theorem frE_FX11_play_54 {h0 : ph_H} (x1 : Int32) (h : ph_H) (e : EQ pE h0 h) : EQ pE h0 (FX11_play_54 x1 h).2 := (EQ_s rfl (frE_FX11_goByRecordc1 _  _ e))
theorem frE_FX11_play {h0 : ph_H} (a0 : Int32) (a1 : Int32) (h : ph_H) (e : EQ pE h0 h) : EQ pE h0 (FX11_play a0 a1 h).2 := (EQ2_if e (EQ2_if e (EQ2_if e (EQ2_if e (EQ2_if (frE_FX11_play_54 _  _ (frE_FX3_begin_on _  _ e)) e)))))
theorem frE_FX11_to {h0 : ph_H} (a0 : Int32) (h : ph_H) (e : EQ pE h0 h) : EQ pE h0 (FX11_to a0 h).2 := (EQ2_if e (EQ2_if e (EQ_s rfl e)))
theorem frE_FX11_back {h0 : ph_H} (a0 : Int32) (h : ph_H) (e : EQ pE h0 h) : EQ pE h0 (FX11_back a0 h).2 := (EQ2_if e (EQ2_if e (EQ2_if (EQ_s rfl e) e)))
theorem frE_FX11_replay_s_33 {h0 : ph_H} (L3 : Int32 → Int32 → ph_H → ph_H) (x3 : Int32) (x4 : Int32) (s0 : Int32) (hL3 : ∀ (y0 : Int32) (y1 : Int32) (h : ph_H), EQ pE h0 h → EQ pE h0 (L3 y0 y1 h)) (h : ph_H) (e : EQ pE h0 h) : EQ pE h0 (FX11_replay_s_33 L3 x3 x4 s0 h) := (hL3 _ _ _ e)
theorem frE_FX11_replay_s_3 {h0 : ph_H}  : ∀ (q : Nat) (y0 : Int32) (y1 : Int32) (h : ph_H), EQ pE h0 h → EQ pE h0 (FX11_replay_s_3  q y0 y1 h) := by
  intro q
  induction q with
  | zero =>
    intro y0 y1 h e
    exact e
  | succ q ih =>
    intro y0 y1 h e
    exact (EQ_if e (EQ_if e (frE_FX11_replay_s_33 _ _ _ _ ih _ (frE_FX3_go_s _  _ e))))
theorem frE_FX11_replay_s {h0 : ph_H} (a1 : Int32) (a2 : Int32) (h : ph_H) (e : EQ pE h0 h) : EQ pE h0 (FX11_replay_s a1 a2 h) := (frE_FX11_replay_s_3   _ _ _ _ e)
theorem frE_FX11_seenBehind_44 {h0 : ph_H} (x1 : Int32) (h : ph_H) (e : EQ pE h0 h) : EQ pE h0 (FX11_seenBehind_44 x1 h) := (EQ_s rfl e)
theorem frE_FX11_seenBehind_31 {h0 : ph_H} (x1 : Int32) (h : ph_H) (e : EQ pE h0 h) : EQ pE h0 (FX11_seenBehind_31 x1 h) := (frE_FX11_seenBehind_44 _  _ (frE_FX11_replay_s _ _  _ e))
theorem frE_FX11_seenBehind_26 {h0 : ph_H} (x1 : Int32) (h : ph_H) (e : EQ pE h0 h) : EQ pE h0 (FX11_seenBehind_26 x1 h) := (frE_FX11_seenBehind_31 _  _ (EQ_s rfl e))
theorem frE_FX11_seenBehind {h0 : ph_H} (a0 : Int32) (h : ph_H) (e : EQ pE h0 h) : EQ pE h0 (FX11_seenBehind a0 h) := (EQ_if (frE_FX11_seenBehind_31 _  _ e) (frE_FX11_seenBehind_26 _  _ (frE_FX3_begin_st _  _ e)))
theorem frE_FX11_thing_18 {h0 : ph_H} (x1 : Int32) (x2 : Int32) (h : ph_H) (e : EQ pE h0 h) : EQ pE h0 (FX11_thing_18 x1 x2 h).2 := (EQ2_if e (EQ2_if e (EQ2_if (EQ2_if e (EQ2_if e e)) e)))
theorem frE_FX11_thing {h0 : ph_H} (a0 : Int32) (a1 : Int32) (h : ph_H) (e : EQ pE h0 h) : EQ pE h0 (FX11_thing a0 a1 h).2 := (EQ2_if e (frE_FX11_thing_18 _ _  _ (frE_FX11_seenBehind _  _ e)))
theorem frE_FX11_thread_36 {h0 : ph_H} (x1 : Int32) (x2 : Int32) (h : ph_H) (e : EQ pE h0 h) : EQ pE h0 (FX11_thread_36 x1 x2 h).2 := (EQ2_if e e)
theorem frE_FX11_thread {h0 : ph_H} (a0 : Int32) (a1 : Int32) (h : ph_H) (e : EQ pE h0 h) : EQ pE h0 (FX11_thread a0 a1 h).2 := (EQ2_if e (EQ2_if e (EQ2_if e (EQ2_if (frE_FX11_thread_36 _ _  _ (frE_FX11_seenBehind _  _ e)) e))))
theorem frE_FX3_hold_oc2 {h0 : ph_H} (a0 : Int32) (a1 : Int32) (a2 : Int32) (h : ph_H) (e : EQ pE h0 h) : EQ pE h0 (FX3_hold_oc2 a0 a1 a2 h).2 := (EQ_s rfl (EQ_s rfl e))
theorem frE_FX3_getCell_oc2 {h0 : ph_H} (a0 : Int32) (a1 : Int32) (h : ph_H) (e : EQ pE h0 h) : EQ pE h0 (FX3_getCell_oc2 a0 a1 h).2 := (frE_FX3_hold_oc2 _ _ _  _ (EQ_s rfl e))
theorem frE_FX3_goTo_oc2 {h0 : ph_H} (a0 : Int32) (h : ph_H) (e : EQ pE h0 h) : EQ pE h0 (FX3_goTo_oc2 a0 h).2 := (EQ_s rfl e)
theorem frE_FX3_goUnless_oc2_25 {h0 : ph_H} (s0 : Int32) (h : ph_H) (e : EQ pE h0 h) : EQ pE h0 (FX3_goUnless_oc2_25 s0 h).2 := e
theorem frE_FX3_goUnless_oc2 {h0 : ph_H} (a0 : Int32) (a1 : Int32) (h : ph_H) (e : EQ pE h0 h) : EQ pE h0 (FX3_goUnless_oc2 a0 a1 h).2 := (EQ2_if (EQ2_if (frE_FX3_goUnless_oc2_25 _  _ (frE_FX3_goTo_oc2 _  _ e)) e) e)
theorem frE_FX3_free_oc2 {h0 : ph_H} (a0 : Int32) (h : ph_H) (e : EQ pE h0 h) : EQ pE h0 (FX3_free_oc2 a0 h).2 := (EQ_s rfl (EQ_s rfl (EQ_s rfl e)))
theorem frE_FX3_leaveLock_oc2 {h0 : ph_H} (a0 : Int32) (a1 : Int32) (h : ph_H) (e : EQ pE h0 h) : EQ pE h0 (FX3_leaveLock_oc2 a0 a1 h).2 := (EQ2_if (EQ2_if (frE_FX3_free_oc2 _  _ e) e) e)
theorem frE_FX3_lieDown_oc2 {h0 : ph_H} (a0 : Int32) (a1 : Int32) (h : ph_H) (e : EQ pE h0 h) : EQ pE h0 (FX3_lieDown_oc2 a0 a1 h).2 := (EQ2_if (EQ2_if (frE_FX3_free_oc2 _  _ (EQ_s rfl (EQ_s rfl (EQ_s rfl e)))) e) e)
theorem frE_FX3_makeThing_oc2 {h0 : ph_H} (a0 : Int32) (a1 : Int32) (a2 : Int32) (h : ph_H) (e : EQ pE h0 h) : EQ pE h0 (FX3_makeThing_oc2 a0 a1 a2 h).2 := (EQ_s rfl (EQ_s rfl (EQ_s rfl (EQ_s rfl (EQ_s rfl (EQ_s rfl e))))))
theorem frE_FX3_makeLock_oc2_22 {h0 : ph_H} (s0 : Int32) (s1 : Int32) (h : ph_H) (e : EQ pE h0 h) : EQ pE h0 (FX3_makeLock_oc2_22 s0 s1 h).2 := (frE_FX3_makeThing_oc2 _ _ _  _ e)
theorem frE_FX3_makeLock_oc2 {h0 : ph_H} (a0 : Int32) (a1 : Int32) (h : ph_H) (e : EQ pE h0 h) : EQ pE h0 (FX3_makeLock_oc2 a0 a1 h).2 := (EQ2_if (EQ2_if (frE_FX3_makeLock_oc2_22 _ _  _ e) (frE_FX3_makeLock_oc2_22 _ _  _ e)) e)
theorem frE_FX3_makeRow_oc2_44 {h0 : ph_H}  : ∀ (q : Nat) (y0 : Int32) (y1 : Int32) (y2 : Int32) (h : ph_H), EQ pE h0 h → EQ pE h0 (FX3_makeRow_oc2_44  q y0 y1 y2 h).2 := by
  intro q
  induction q with
  | zero =>
    intro y0 y1 y2 h e
    exact e
  | succ q ih =>
    intro y0 y1 y2 h e
    exact (EQ2_if (frE_FX3_makeThing_oc2 _ _ _  _ e) (ih _ _ _ _ (EQ_s rfl e)))
theorem frE_FX3_makeRow_oc2 {h0 : ph_H} (a0 : Int32) (a1 : Int32) (h : ph_H) (e : EQ pE h0 h) : EQ pE h0 (FX3_makeRow_oc2 a0 a1 h).2 := (EQ2_if (EQ2_if (EQ2_if e (EQ2_if (frE_FX3_makeRow_oc2_44   _ _ _ _ _ e) e)) e) e)
theorem frE_FX3_putCell_oc2 {h0 : ph_H} (a0 : Int32) (a1 : Int32) (h : ph_H) (e : EQ pE h0 h) : EQ pE h0 (FX3_putCell_oc2 a0 a1 h).2 := (frE_FX3_hold_oc2 _ _ _  _ (EQ_s rfl e))
theorem frE_FX3_readRow_oc2 {h0 : ph_H} (a0 : Int32) (a1 : Int32) (a2 : Int32) (h : ph_H) (e : EQ pE h0 h) : EQ pE h0 (FX3_readRow_oc2 a0 a1 a2 h).2 := (EQ2_if (EQ2_if (EQ2_if e (frE_FX3_hold_oc2 _ _ _  _ (EQ_s rfl e))) e) e)
theorem frE_FX3_reckon_oc2_58 {h0 : ph_H} (x2 : Int32) (s0 : Int32) (h : ph_H) (e : EQ pE h0 h) : EQ pE h0 (FX3_reckon_oc2_58 x2 s0 h).2 := (frE_FX3_hold_oc2 _ _ _  _ e)
theorem frE_FX3_reckon_oc2 {h0 : ph_H} (a0 : Int32) (a1 : Int32) (a2 : Int32) (h : ph_H) (e : EQ pE h0 h) : EQ pE h0 (FX3_reckon_oc2 a0 a1 a2 h).2 := (EQ2_if e (EQ2_if (frE_FX3_reckon_oc2_58 _ _  _ e) (EQ2_if (frE_FX3_reckon_oc2_58 _ _  _ e) (frE_FX3_reckon_oc2_58 _ _  _ e))))
theorem frE_FX3_startThread_oc2 {h0 : ph_H} (a0 : Int32) (h : ph_H) (e : EQ pE h0 h) : EQ pE h0 (FX3_startThread_oc2 a0 h).2 := (EQ2_if (EQ_s rfl (EQ_s rfl (EQ_s rfl e))) e)
theorem frE_FX3_takeInput_oc2 {h0 : ph_H} (a0 : Int32) (h : ph_H) (e : EQ pE h0 h) : EQ pE h0 (FX3_takeInput_oc2 a0 h).2 := (EQ2_if e (EQ2_if (frE_FX3_hold_oc2 _ _ _  _ (EQ_s rfl e)) e))
theorem frE_FX3_own_oc2 {h0 : ph_H} (a0 : Int32) (a1 : Int32) (h : ph_H) (e : EQ pE h0 h) : EQ pE h0 (FX3_own_oc2 a0 a1 h).2 := (EQ_s rfl (EQ_s rfl (EQ_s rfl e)))
theorem frE_FX3_takeLock_oc2 {h0 : ph_H} (a0 : Int32) (a1 : Int32) (h : ph_H) (e : EQ pE h0 h) : EQ pE h0 (FX3_takeLock_oc2 a0 a1 h).2 := (EQ2_if (EQ2_if e (frE_FX3_own_oc2 _ _  _ e)) e)
theorem frE_FX3_wakeSleepers_oc2_64 {h0 : ph_H} (L28 : Int32 → Int32 → ph_H → Int32 × ph_H) (x3 : Int32) (x4 : Int32) (hL28 : ∀ (y0 : Int32) (y1 : Int32) (h : ph_H), EQ pE h0 h → EQ pE h0 (L28 y0 y1 h).2) (h : ph_H) (e : EQ pE h0 h) : EQ pE h0 (FX3_wakeSleepers_oc2_64 L28 x3 x4 h).2 := (hL28 _ _ _ e)
theorem frE_FX3_wakeSleepers_oc2_28 {h0 : ph_H}  : ∀ (q : Nat) (y0 : Int32) (y1 : Int32) (h : ph_H), EQ pE h0 h → EQ pE h0 (FX3_wakeSleepers_oc2_28  q y0 y1 h).2 := by
  intro q
  induction q with
  | zero =>
    intro y0 y1 h e
    exact e
  | succ q ih =>
    intro y0 y1 h e
    exact (EQ2_if (EQ_s rfl e) (EQ2_if (EQ2_if (frE_FX3_wakeSleepers_oc2_64 _ _ _ ih _ (EQ_s rfl e)) (frE_FX3_wakeSleepers_oc2_64 _ _ _ ih _ e)) (frE_FX3_wakeSleepers_oc2_64 _ _ _ ih _ e)))
theorem frE_FX3_wakeSleepers_oc2 {h0 : ph_H} (a0 : Int32) (a1 : Int32) (h : ph_H) (e : EQ pE h0 h) : EQ pE h0 (FX3_wakeSleepers_oc2 a0 a1 h).2 := (EQ2_if (EQ2_if (frE_FX3_wakeSleepers_oc2_28   _ _ _ _ e) e) e)
theorem frE_FX3_writeRow_oc2 {h0 : ph_H} (a0 : Int32) (a1 : Int32) (a2 : Int32) (h : ph_H) (e : EQ pE h0 h) : EQ pE h0 (FX3_writeRow_oc2 a0 a1 a2 h).2 := (EQ2_if (EQ2_if e (EQ2_if e (EQ_s rfl (EQ_s rfl e)))) e)
theorem frE_FX3_perform_oc2_288 {h0 : ph_H} (s0 : Int32) (s1 : Int32) (h : ph_H) (e : EQ pE h0 h) : EQ pE h0 (FX3_perform_oc2_288 s0 s1 h).2 := (frE_FX3_makeLock_oc2 _ _  _ e)
theorem frE_FX3_perform_oc2 {h0 : ph_H} (a0 : Int32) (h : ph_H) (e : EQ pE h0 h) : EQ pE h0 (FX3_perform_oc2 a0 h).2 := (EQ2_if (frE_FX3_hold_oc2 _ _ _  _ e) (EQ2_if (frE_FX3_getCell_oc2 _ _  _ e) (EQ2_if (frE_FX3_putCell_oc2 _ _  _ e) (EQ2_if (frE_FX3_reckon_oc2 _ _ _  _ e) (EQ2_if (frE_FX3_reckon_oc2 _ _ _  _ e) (EQ2_if (frE_FX3_reckon_oc2 _ _ _  _ e) (EQ2_if (frE_FX3_goTo_oc2 _  _ e) (EQ2_if (frE_FX3_goUnless_oc2 _ _  _ e) (EQ2_if (frE_FX3_makeRow_oc2 _ _  _ e) (EQ2_if (frE_FX3_readRow_oc2 _ _ _  _ e) (EQ2_if (frE_FX3_writeRow_oc2 _ _ _  _ e) (EQ2_if (EQ2_if (frE_FX3_perform_oc2_288 _ _  _ e) (frE_FX3_perform_oc2_288 _ _  _ e)) (EQ2_if (frE_FX3_takeLock_oc2 _ _  _ e) (EQ2_if (frE_FX3_leaveLock_oc2 _ _  _ e) (EQ2_if (frE_FX3_lieDown_oc2 _ _  _ e) (EQ2_if (frE_FX3_wakeSleepers_oc2 _ _  _ e) (EQ2_if (frE_FX3_takeInput_oc2 _  _ e) (EQ2_if (frE_FX3_startThread_oc2 _  _ e) (EQ2_if e (frE_FX3_goTo_oc2 _  _ e))))))))))))))))))))
theorem frE_FX3_rise_oc2 {h0 : ph_H} (a0 : Int32) (h : ph_H) (e : EQ pE h0 h) : EQ pE h0 (FX3_rise_oc2 a0 h).2 := (frE_FX3_own_oc2 _ _  _ (EQ_s rfl e))
theorem frE_FX3_go_oc2_67 {h0 : ph_H} (x1 : Int32) (s0 : Int32) (h : ph_H) (e : EQ pE h0 h) : EQ pE h0 (FX3_go_oc2_67 x1 s0 h).2 := (EQ2_if (EQ_s rfl e) e)
theorem frE_FX3_go_oc2_59 {h0 : ph_H} (x1 : Int32) (s0 : Int32) (h : ph_H) (e : EQ pE h0 h) : EQ pE h0 (FX3_go_oc2_59 x1 s0 h).2 := (frE_FX3_go_oc2_67 _ _  _ e)
theorem frE_FX3_go_oc2 {h0 : ph_H} (a0 : Int32) (h : ph_H) (e : EQ pE h0 h) : EQ pE h0 (FX3_go_oc2 a0 h).2 := (EQ2_if e (EQ2_if (frE_FX3_go_oc2_59 _ _  _ (frE_FX3_rise_oc2 _  _ (EQ_s rfl (EQ_s rfl (EQ_s rfl (EQ_s rfl (EQ_s rfl e))))))) (frE_FX3_go_oc2_67 _ _  _ (frE_FX3_perform_oc2 _  _ (EQ_s rfl (EQ_s rfl (EQ_s rfl (EQ_s rfl (EQ_s rfl e)))))))))
theorem frE_FX11_replay_oc2_33 {h0 : ph_H} (L3 : Int32 → Int32 → ph_H → ph_H) (x3 : Int32) (x4 : Int32) (s0 : Int32) (hL3 : ∀ (y0 : Int32) (y1 : Int32) (h : ph_H), EQ pE h0 h → EQ pE h0 (L3 y0 y1 h)) (h : ph_H) (e : EQ pE h0 h) : EQ pE h0 (FX11_replay_oc2_33 L3 x3 x4 s0 h) := (hL3 _ _ _ e)
theorem frE_FX11_replay_oc2_3 {h0 : ph_H}  : ∀ (q : Nat) (y0 : Int32) (y1 : Int32) (h : ph_H), EQ pE h0 h → EQ pE h0 (FX11_replay_oc2_3  q y0 y1 h) := by
  intro q
  induction q with
  | zero =>
    intro y0 y1 h e
    exact e
  | succ q ih =>
    intro y0 y1 h e
    exact (EQ_if e (EQ_if e (frE_FX11_replay_oc2_33 _ _ _ _ ih _ (frE_FX3_go_oc2 _  _ e))))
theorem frE_FX11_replay_oc2 {h0 : ph_H} (a1 : Int32) (a2 : Int32) (h : ph_H) (e : EQ pE h0 h) : EQ pE h0 (FX11_replay_oc2 a1 a2 h) := (frE_FX11_replay_oc2_3   _ _ _ _ e)
theorem frE_FX3_begin_ot_52 {h0 : ph_H} (x2 : Int32) (h : ph_H) (e : EQ pE h0 h) : EQ pE h0 (FX3_begin_ot_52 x2 h) := (EQ_s rfl (EQ_s rfl (EQ_s rfl (EQ_s rfl e))))
theorem frE_FX3_begin_ot_44 {h0 : ph_H} (x2 : Int32) (h : ph_H) (e : EQ pE h0 h) : EQ pE h0 (FX3_begin_ot_44 x2 h) := (frE_FX3_begin_ot_52 _  _ (frE_FJ7_fill_53178_k29 _  _ e))
theorem frE_FX3_begin_ot_21 {h0 : ph_H} (x2 : Int32) (h : ph_H) (e : EQ pE h0 h) : EQ pE h0 (FX3_begin_ot_21 x2 h) := (frE_FX3_begin_ot_44 _  _ (frE_FJ7_fill_53178_k28 _  _ (EQ_c (fun _ => rfl) e)))
theorem frE_FX3_begin_ot_13 {h0 : ph_H} (x2 : Int32) (h : ph_H) (e : EQ pE h0 h) : EQ pE h0 (FX3_begin_ot_13 x2 h) := (frE_FX3_begin_ot_21 _  _ (frE_FJ7_fill_53178_k27 _  _ e))
theorem frE_FX3_begin_ot {h0 : ph_H} (a1 : Int32) (h : ph_H) (e : EQ pE h0 h) : EQ pE h0 (FX3_begin_ot a1 h) := (frE_FX3_begin_ot_13 _  _ (frE_FJ7_fill_53178_k26 _  _ e))
theorem frE_FX11_differ_61 {h0 : ph_H}  (h : ph_H) (e : EQ pE h0 h) : EQ pE h0 (FX11_differ_61 h).2 := e
theorem frE_FX11_differ_56 {h0 : ph_H} (x2 : Int32) (h : ph_H) (e : EQ pE h0 h) : EQ pE h0 (FX11_differ_56 x2 h).2 := (frE_FX11_differ_61   _ (frE_FX11_seenBehind _  _ e))
theorem frE_FX11_differ_46 {h0 : ph_H} (x1 : Int32) (x2 : Int32) (h : ph_H) (e : EQ pE h0 h) : EQ pE h0 (FX11_differ_46 x1 x2 h).2 := (frE_FX11_differ_56 _  _ (frE_FX11_replay_oc2 _ _  _ e))
theorem frE_FX11_differ {h0 : ph_H} (a0 : Int32) (a1 : Int32) (h : ph_H) (e : EQ pE h0 h) : EQ pE h0 (FX11_differ a0 a1 h).2 := (EQ2_if e (EQ2_if e (EQ2_if e (frE_FX11_differ_46 _ _  _ (frE_FX3_begin_ot _  _ e)))))
theorem frE_FX6_goThrough_97 {h0 : ph_H} (L37 : Int32 → Int32 → ph_H → ph_H) (x1 : Int32) (x2 : Int32) (s0 : Int32) (hL37 : ∀ (y0 : Int32) (y1 : Int32) (h : ph_H), EQ pE h0 h → EQ pE h0 (L37 y0 y1 h)) (h : ph_H) (e : EQ pE h0 h) : EQ pE h0 (FX6_goThrough_97 L37 x1 x2 s0 h) := (hL37 _ _ _ (EQ_s rfl (EQ_s rfl e)))
theorem frE_FX6_goThrough_82 {h0 : ph_H} (L37 : Int32 → Int32 → ph_H → ph_H) (x1 : Int32) (x2 : Int32) (hL37 : ∀ (y0 : Int32) (y1 : Int32) (h : ph_H), EQ pE h0 h → EQ pE h0 (L37 y0 y1 h)) (h : ph_H) (e : EQ pE h0 h) : EQ pE h0 (FX6_goThrough_82 L37 x1 x2 h) := (frE_FX6_goThrough_97 _ _ _ _ hL37 _ (frE_FX3_go_oc1 _  _ e))
theorem frE_FX6_goThrough_122 {h0 : ph_H} (x1 : Int32) (h : ph_H) (e : EQ pE h0 h) : EQ pE h0 (FX6_goThrough_122 x1 h) := (EQ_if e (EQ_s rfl e))
theorem frE_FX6_goThrough_37 {h0 : ph_H}  : ∀ (q : Nat) (y0 : Int32) (y1 : Int32) (h : ph_H), EQ pE h0 h → EQ pE h0 (FX6_goThrough_37  q y0 y1 h) := by
  intro q
  induction q with
  | zero =>
    intro y0 y1 h e
    exact e
  | succ q ih =>
    intro y0 y1 h e
    exact (EQ_if (frE_FX6_goThrough_122 _  _ e) (EQ_if (frE_FX6_goThrough_122 _  _ e) (EQ_if (EQ_if (frE_FX6_goThrough_82 _ _ _ ih _ e) (frE_FX6_goThrough_82 _ _ _ ih _ (EQ_s (pE_57 _ _) e))) (frE_FX6_goThrough_122 _  _ e))))
theorem frE_FX6_goThrough_18 {h0 : ph_H} (x1 : Int32) (h : ph_H) (e : EQ pE h0 h) : EQ pE h0 (FX6_goThrough_18 x1 h) := (frE_FX6_goThrough_37   _ _ _ _ (EQ_s rfl (EQ_s rfl e)))
theorem frE_FX6_goThrough {h0 : ph_H} (a0 : Int32) (h : ph_H) (e : EQ pE h0 h) : EQ pE h0 (FX6_goThrough a0 h) := (frE_FX6_goThrough_18 _  _ (frE_FX3_begin_on _  _ e))
theorem frE_FX3_begin_onc1_52 {h0 : ph_H} (x2 : Int32) (h : ph_H) (e : EQ pE h0 h) : EQ pE h0 (FX3_begin_onc1_52 x2 h) := (EQ_s rfl (EQ_s rfl (EQ_s rfl (EQ_s rfl e))))
theorem frE_FX3_begin_onc1_44 {h0 : ph_H} (x2 : Int32) (h : ph_H) (e : EQ pE h0 h) : EQ pE h0 (FX3_begin_onc1_44 x2 h) := (frE_FX3_begin_onc1_52 _  _ (frE_FJ7_fill_53178_k29 _  _ e))
theorem frE_FX3_begin_onc1_21 {h0 : ph_H} (x2 : Int32) (h : ph_H) (e : EQ pE h0 h) : EQ pE h0 (FX3_begin_onc1_21 x2 h) := (frE_FX3_begin_onc1_44 _  _ (frE_FJ7_fill_53178_k28 _  _ (EQ_c (fun _ => rfl) e)))
theorem frE_FX3_begin_onc1_13 {h0 : ph_H} (x2 : Int32) (h : ph_H) (e : EQ pE h0 h) : EQ pE h0 (FX3_begin_onc1_13 x2 h) := (frE_FX3_begin_onc1_21 _  _ (frE_FJ7_fill_53178_k27 _  _ e))
theorem frE_FX3_begin_onc1 {h0 : ph_H} (a1 : Int32) (h : ph_H) (e : EQ pE h0 h) : EQ pE h0 (FX3_begin_onc1 a1 h) := (frE_FX3_begin_onc1_13 _  _ (frE_FJ7_fill_53178_k26 _  _ e))
theorem frE_FX6_goThroughc1_97 {h0 : ph_H} (L37 : Int32 → Int32 → ph_H → ph_H) (x1 : Int32) (x2 : Int32) (s0 : Int32) (hL37 : ∀ (y0 : Int32) (y1 : Int32) (h : ph_H), EQ pE h0 h → EQ pE h0 (L37 y0 y1 h)) (h : ph_H) (e : EQ pE h0 h) : EQ pE h0 (FX6_goThroughc1_97 L37 x1 x2 s0 h) := (hL37 _ _ _ (EQ_s rfl (EQ_s rfl e)))
theorem frE_FX6_goThroughc1_82 {h0 : ph_H} (L37 : Int32 → Int32 → ph_H → ph_H) (x1 : Int32) (x2 : Int32) (hL37 : ∀ (y0 : Int32) (y1 : Int32) (h : ph_H), EQ pE h0 h → EQ pE h0 (L37 y0 y1 h)) (h : ph_H) (e : EQ pE h0 h) : EQ pE h0 (FX6_goThroughc1_82 L37 x1 x2 h) := (frE_FX6_goThroughc1_97 _ _ _ _ hL37 _ (frE_FX3_go_oc1 _  _ e))
theorem frE_FX6_goThroughc1_122 {h0 : ph_H} (x1 : Int32) (h : ph_H) (e : EQ pE h0 h) : EQ pE h0 (FX6_goThroughc1_122 x1 h) := (EQ_if e (EQ_s rfl e))
theorem frE_FX6_goThroughc1_37 {h0 : ph_H}  : ∀ (q : Nat) (y0 : Int32) (y1 : Int32) (h : ph_H), EQ pE h0 h → EQ pE h0 (FX6_goThroughc1_37  q y0 y1 h) := by
  intro q
  induction q with
  | zero =>
    intro y0 y1 h e
    exact e
  | succ q ih =>
    intro y0 y1 h e
    exact (EQ_if (frE_FX6_goThroughc1_122 _  _ e) (EQ_if (frE_FX6_goThroughc1_122 _  _ e) (EQ_if (EQ_if (frE_FX6_goThroughc1_82 _ _ _ ih _ e) (frE_FX6_goThroughc1_82 _ _ _ ih _ (EQ_s (pE_57 _ _) e))) (frE_FX6_goThroughc1_122 _  _ e))))
theorem frE_FX6_goThroughc1_18 {h0 : ph_H} (x1 : Int32) (h : ph_H) (e : EQ pE h0 h) : EQ pE h0 (FX6_goThroughc1_18 x1 h) := (frE_FX6_goThroughc1_37   _ _ _ _ (EQ_s rfl (EQ_s rfl e)))
theorem frE_FX6_goThroughc1 {h0 : ph_H} (a0 : Int32) (h : ph_H) (e : EQ pE h0 h) : EQ pE h0 (FX6_goThroughc1 a0 h) := (frE_FX6_goThroughc1_18 _  _ (frE_FX3_begin_onc1 _  _ e))
theorem frE_FX6_putAhead {h0 : ph_H} (a0 : Int32) (a1 : Int32) (h : ph_H) (e : EQ pE h0 h) : EQ pE h0 (FX6_putAhead a0 a1 h) := (EQ_s rfl (EQ_s rfl e))
theorem frE_FX6_moveOn_29 {h0 : ph_H} (L16 : Int32 → Int32 → Int32 → ph_H → Int32 × ph_H) (hL16 : ∀ (y0 : Int32) (y1 : Int32) (y2 : Int32) (h : ph_H), EQ pE h0 h → EQ pE h0 (L16 y0 y1 y2 h).2) : ∀ (q : Nat) (y0 : Int32) (y1 : Int32) (y2 : Int32) (h : ph_H), EQ pE h0 h → EQ pE h0 (FX6_moveOn_29 L16 q y0 y1 y2 h).2 := by
  intro q
  induction q with
  | zero =>
    intro y0 y1 y2 h e
    exact e
  | succ q ih =>
    intro y0 y1 y2 h e
    exact (EQ2_if (hL16 _ _ _ _ e) (EQ2_if (ih _ _ _ _ e) (EQ_s rfl (EQ_s rfl e))))
theorem frE_FX6_moveOn_16 {h0 : ph_H}  : ∀ (q : Nat) (y0 : Int32) (y1 : Int32) (y2 : Int32) (h : ph_H), EQ pE h0 h → EQ pE h0 (FX6_moveOn_16  q y0 y1 y2 h).2 := by
  intro q
  induction q with
  | zero =>
    intro y0 y1 y2 h e
    exact e
  | succ q ih =>
    intro y0 y1 y2 h e
    exact (EQ2_if e (frE_FX6_moveOn_29 _ ih _ _ _ _ _ e))
theorem frE_FX6_moveOn {h0 : ph_H} (a0 : Int32) (h : ph_H) (e : EQ pE h0 h) : EQ pE h0 (FX6_moveOn a0 h).2 := (frE_FX6_moveOn_16   _ _ _ _ _ e)
theorem frE_FX6_putChangesc1_71 {h0 : ph_H} (L16 : Int32 → ph_H → Int32 × ph_H) (x1 : Int32) (hL16 : ∀ (y0 : Int32) (h : ph_H), EQ pE h0 h → EQ pE h0 (L16 y0 h).2) (h : ph_H) (e : EQ pE h0 h) : EQ pE h0 (FX6_putChangesc1_71 L16 x1 h).2 := (hL16 _ _ e)
theorem frE_FX6_putChangesc1_53 {h0 : ph_H} (L16 : Int32 → ph_H → Int32 × ph_H) (x1 : Int32) (hL16 : ∀ (y0 : Int32) (h : ph_H), EQ pE h0 h → EQ pE h0 (L16 y0 h).2) (h : ph_H) (e : EQ pE h0 h) : EQ pE h0 (FX6_putChangesc1_53 L16 x1 h).2 := (frE_FX6_putChangesc1_71 _ _ hL16 _ (frE_FX6_putAhead _ _  _ (EQ_s rfl e)))
theorem frE_FX6_putChangesc1_38 {h0 : ph_H} (L16 : Int32 → ph_H → Int32 × ph_H) (x1 : Int32) (s0 : Int32) (hL16 : ∀ (y0 : Int32) (h : ph_H), EQ pE h0 h → EQ pE h0 (L16 y0 h).2) (h : ph_H) (e : EQ pE h0 h) : EQ pE h0 (FX6_putChangesc1_38 L16 x1 s0 h).2 := (EQ2_if e (frE_FX6_putChangesc1_53 _ _ hL16 _ (frE_FX6_goThroughc1 _  _ (EQ_s rfl e))))
theorem frE_FX6_putChangesc1_28 {h0 : ph_H} (L16 : Int32 → ph_H → Int32 × ph_H) (x1 : Int32) (s0 : Int32) (hL16 : ∀ (y0 : Int32) (h : ph_H), EQ pE h0 h → EQ pE h0 (L16 y0 h).2) (h : ph_H) (e : EQ pE h0 h) : EQ pE h0 (FX6_putChangesc1_28 L16 x1 s0 h).2 := (EQ2_if (frE_FX6_putChangesc1_38 _ _ _ hL16 _ (frE_FX6_moveOn _  _ e)) e)
theorem frE_FX6_putChangesc1_16 {h0 : ph_H}  : ∀ (q : Nat) (y0 : Int32) (h : ph_H), EQ pE h0 h → EQ pE h0 (FX6_putChangesc1_16  q y0 h).2 := by
  intro q
  induction q with
  | zero =>
    intro y0 h e
    exact e
  | succ q ih =>
    intro y0 h e
    exact (EQ2_if e (frE_FX6_putChangesc1_28 _ _ _ ih _ (frE_FX6_moveOn _  _ e)))
theorem frE_FX6_putChangesc1 {h0 : ph_H}  (h : ph_H) (e : EQ pE h0 h) : EQ pE h0 (FX6_putChangesc1 h).2 := (EQ2_if (frE_FX6_moveOn _  _ e) (frE_FX6_putChangesc1_16   _ _ _ e))
theorem frE_FX6_look_84 {h0 : ph_H} (L17 : Int32 → Int32 → Int32 → ph_H → Int32 × ph_H) (L47 : Int32 → Int32 → Int32 → ph_H → Int32 × ph_H) (x1 : Int32) (x2 : Int32) (x3 : Int32) (hL17 : ∀ (y0 : Int32) (y1 : Int32) (y2 : Int32) (h : ph_H), EQ pE h0 h → EQ pE h0 (L17 y0 y1 y2 h).2) (hL47 : ∀ (y0 : Int32) (y1 : Int32) (y2 : Int32) (h : ph_H), EQ pE h0 h → EQ pE h0 (L47 y0 y1 y2 h).2) (h : ph_H) (e : EQ pE h0 h) : EQ pE h0 (FX6_look_84 L17 L47 x1 x2 x3 h).2 := (hL47 _ _ _ _ e)
theorem frE_FX6_look_87 {h0 : ph_H} (L17 : Int32 → Int32 → Int32 → ph_H → Int32 × ph_H) (x1 : Int32) (x2 : Int32) (x3 : Int32) (hL17 : ∀ (y0 : Int32) (y1 : Int32) (y2 : Int32) (h : ph_H), EQ pE h0 h → EQ pE h0 (L17 y0 y1 y2 h).2) (h : ph_H) (e : EQ pE h0 h) : EQ pE h0 (FX6_look_87 L17 x1 x2 x3 h).2 := (hL17 _ _ _ _ e)
theorem frE_FX6_look_66 {h0 : ph_H} (L17 : Int32 → Int32 → Int32 → ph_H → Int32 × ph_H) (L47 : Int32 → Int32 → Int32 → ph_H → Int32 × ph_H) (x1 : Int32) (x2 : Int32) (x3 : Int32) (s0 : Int32) (hL17 : ∀ (y0 : Int32) (y1 : Int32) (y2 : Int32) (h : ph_H), EQ pE h0 h → EQ pE h0 (L17 y0 y1 y2 h).2) (hL47 : ∀ (y0 : Int32) (y1 : Int32) (y2 : Int32) (h : ph_H), EQ pE h0 h → EQ pE h0 (L47 y0 y1 y2 h).2) (h : ph_H) (e : EQ pE h0 h) : EQ pE h0 (FX6_look_66 L17 L47 x1 x2 x3 s0 h).2 := (EQ2_if (frE_FX6_look_87 _ _ _ _ hL17 _ e) (frE_FX6_look_84 _ _ _ _ _ hL17 hL47 _ (frE_FX6_goThroughc1 _  _ (EQ_s rfl e))))
theorem frE_FX6_look_47 {h0 : ph_H} (L17 : Int32 → Int32 → Int32 → ph_H → Int32 × ph_H) (hL17 : ∀ (y0 : Int32) (y1 : Int32) (y2 : Int32) (h : ph_H), EQ pE h0 h → EQ pE h0 (L17 y0 y1 y2 h).2) : ∀ (q : Nat) (y0 : Int32) (y1 : Int32) (y2 : Int32) (h : ph_H), EQ pE h0 h → EQ pE h0 (FX6_look_47 L17 q y0 y1 y2 h).2 := by
  intro q
  induction q with
  | zero =>
    intro y0 y1 y2 h e
    exact e
  | succ q ih =>
    intro y0 y1 y2 h e
    exact (EQ2_if (frE_FX6_look_87 _ _ _ _ hL17 _ e) (EQ2_if (frE_FX6_look_66 _ _ _ _ _ _ hL17 ih _ (frE_FX6_putChangesc1   _ e)) (frE_FX6_look_87 _ _ _ _ hL17 _ e)))
theorem frE_FX6_look_40 {h0 : ph_H} (L17 : Int32 → Int32 → Int32 → ph_H → Int32 × ph_H) (x1 : Int32) (x2 : Int32) (x3 : Int32) (hL17 : ∀ (y0 : Int32) (y1 : Int32) (y2 : Int32) (h : ph_H), EQ pE h0 h → EQ pE h0 (L17 y0 y1 y2 h).2) (h : ph_H) (e : EQ pE h0 h) : EQ pE h0 (FX6_look_40 L17 x1 x2 x3 h).2 := (frE_FX6_look_47 _ hL17 _ _ _ _ _ (EQ_s rfl e))
theorem frE_FX6_look_106 {h0 : ph_H} (s0 : Int32) (h : ph_H) (e : EQ pE h0 h) : EQ pE h0 (FX6_look_106 s0 h).2 := (EQ2_if (EQ_s rfl e) (EQ_s rfl e))
theorem frE_FX6_look_93 {h0 : ph_H}  (h : ph_H) (e : EQ pE h0 h) : EQ pE h0 (FX6_look_93 h).2 := (EQ2_if (frE_FX6_look_106 _  _ e) (frE_FX6_look_106 _  _ e))
theorem frE_FX6_look_17 {h0 : ph_H}  : ∀ (q : Nat) (y0 : Int32) (y1 : Int32) (y2 : Int32) (h : ph_H), EQ pE h0 h → EQ pE h0 (FX6_look_17  q y0 y1 y2 h).2 := by
  intro q
  induction q with
  | zero =>
    intro y0 y1 y2 h e
    exact e
  | succ q ih =>
    intro y0 y1 y2 h e
    exact (EQ2_if (frE_FX6_look_93   _ e) (EQ2_if (frE_FX6_look_40 _ _ _ _ ih _ (frE_FX6_putAhead _ _  _ (EQ_s rfl e))) (frE_FX6_look_93   _ e)))
theorem frE_FX6_look_15 {h0 : ph_H} (x1 : Int32) (x2 : Int32) (h : ph_H) (e : EQ pE h0 h) : EQ pE h0 (FX6_look_15 x1 x2 h).2 := (frE_FX6_look_17   _ _ _ _ _ e)
theorem frE_FX6_look {h0 : ph_H} (a0 : Int32) (a1 : Int32) (h : ph_H) (e : EQ pE h0 h) : EQ pE h0 (FX6_look a0 a1 h).2 := (frE_FX6_look_15 _ _  _ (frE_FX6_goThrough _  _ (EQ_s rfl (EQ_s rfl e))))
theorem frE_FX11_find {h0 : ph_H} (a0 : Int32) (a1 : Int32) (h : ph_H) (e : EQ pE h0 h) : EQ pE h0 (FX11_find a0 a1 h).2 := (EQ2_if e (EQ2_if e (EQ2_if e (EQ2_if (frE_FX6_look _ _  _ e) e))))
def pVE (k i : Nat) : Bool := match k with
  | 0 => i == 36 || i == 38 || i == 64
  | 29 => true
  | 31 => true
  | 32 => true
  | 33 => true
  | 34 => true
  | 35 => true
  | 39 => true
  | _ => false
theorem frVE_FX12_code {h0 : ph_H} (a0 : Int32) (a1 : Int32) (a2 : Int32) (a3 : Int32) (a4 : Int32) (h : ph_H) (e : EQ pVE h0 h) : EQ pVE h0 (FX12_code a0 a1 a2 a3 a4 h).2 := (EQ2_if (EQ_s rfl e) (EQ2_if (EQ_s rfl e) (EQ2_if (EQ_s rfl e) (EQ_s rfl (EQ_s rfl (EQ_s rfl (EQ_s rfl (EQ_s rfl (EQ_s rfl e)))))))))
theorem frVE_FX12_clear {h0 : ph_H} (a0 : Int32) (h : ph_H) (e : EQ pVE h0 h) : EQ pVE h0 (FX12_clear a0 h).2 := (EQ2_if (EQ_s rfl e) (EQ_s rfl (EQ_s rfl e)))
theorem frVE_FX12_cell {h0 : ph_H} (a0 : Int32) (a1 : Int32) (h : ph_H) (e : EQ pVE h0 h) : EQ pVE h0 (FX12_cell a0 a1 h).2 := (EQ2_if (EQ_s rfl e) (EQ_s rfl (EQ_s rfl e)))
theorem frVE_FX12_input {h0 : ph_H} (a0 : Int32) (h : ph_H) (e : EQ pVE h0 h) : EQ pVE h0 (FX12_input a0 h).2 := (EQ2_if (EQ_s rfl e) (EQ_s rfl (EQ_s rfl (EQ_s rfl e))))
theorem frVE_FX12_turn {h0 : ph_H} (a0 : Int32) (a1 : Int32) (h : ph_H) (e : EQ pVE h0 h) : EQ pVE h0 (FX12_turn a0 a1 h).2 := (EQ2_if (EQ_s rfl e) (EQ2_if (EQ_s rfl e) (EQ2_if (EQ_s rfl e) (EQ_s rfl (EQ_s rfl (EQ_s rfl (EQ_s rfl e)))))))
theorem frVE_FX12_freely {h0 : ph_H}  (h : ph_H) (e : EQ pVE h0 h) : EQ pVE h0 (FX12_freely h).2 := (EQ_s rfl (EQ_s rfl e))
theorem frVE_FX12_begin_36 {h0 : ph_H} (L2 : Int32 → ph_H → ph_H) (x1 : Int32) (s0 : Int32) (s1 : Int32) (hL2 : ∀ (y0 : Int32) (h : ph_H), EQ pVE h0 h → EQ pVE h0 (L2 y0 h)) (h : ph_H) (e : EQ pVE h0 h) : EQ pVE h0 (FX12_begin_36 L2 x1 s0 s1 h) := (hL2 _ _ (EQ_s rfl e))
theorem frVE_FX12_begin_85 {h0 : ph_H} (L45 : Int32 → ph_H → ph_H) (x1 : Int32) (s0 : Int32) (s1 : Int32) (hL45 : ∀ (y0 : Int32) (h : ph_H), EQ pVE h0 h → EQ pVE h0 (L45 y0 h)) (h : ph_H) (e : EQ pVE h0 h) : EQ pVE h0 (FX12_begin_85 L45 x1 s0 s1 h) := (hL45 _ _ (EQ_s rfl (EQ_s rfl (EQ_s rfl e))))
theorem frVE_FX12_begin_70 {h0 : ph_H} (L45 : Int32 → ph_H → ph_H) (x1 : Int32) (s0 : Int32) (s1 : Int32) (hL45 : ∀ (y0 : Int32) (h : ph_H), EQ pVE h0 h → EQ pVE h0 (L45 y0 h)) (h : ph_H) (e : EQ pVE h0 h) : EQ pVE h0 (FX12_begin_70 L45 x1 s0 s1 h) := (EQ_if (frVE_FX12_begin_85 _ _ _ _ hL45 _ (EQ_s rfl e)) (frVE_FX12_begin_85 _ _ _ _ hL45 _ (EQ_s rfl e)))
theorem frVE_FX12_begin_45 {h0 : ph_H}  : ∀ (q : Nat) (y0 : Int32) (h : ph_H), EQ pVE h0 h → EQ pVE h0 (FX12_begin_45  q y0 h) := by
  intro q
  induction q with
  | zero =>
    intro y0 h e
    exact e
  | succ q ih =>
    intro y0 h e
    exact (EQ_if (EQ_s rfl (EQ_s rfl (EQ_s rfl (EQ_s rfl (EQ_s rfl (EQ_s rfl e)))))) (EQ_if (frVE_FX12_begin_70 _ _ _ _ ih _ e) (frVE_FX12_begin_70 _ _ _ _ ih _ e)))
theorem frVE_FX12_begin_2 {h0 : ph_H}  : ∀ (q : Nat) (y0 : Int32) (h : ph_H), EQ pVE h0 h → EQ pVE h0 (FX12_begin_2  q y0 h) := by
  intro q
  induction q with
  | zero =>
    intro y0 h e
    exact e
  | succ q ih =>
    intro y0 h e
    exact (EQ_if (frVE_FX12_begin_45   _ _ _ e) (EQ_if (frVE_FX12_begin_36 _ _ _ _ ih _ (EQ_s rfl e)) (frVE_FX12_begin_36 _ _ _ _ ih _ (EQ_s rfl e))))
theorem frVE_FX12_begin {h0 : ph_H}  (h : ph_H) (e : EQ pVE h0 h) : EQ pVE h0 (FX12_begin h) := (frVE_FX12_begin_2   _ _ _ e)
theorem frVE_FX12_goTo_19 {h0 : ph_H} (s0 : Int32) (h : ph_H) (e : EQ pVE h0 h) : EQ pVE h0 (FX12_goTo_19 s0 h) := (EQ_s rfl e)
theorem frVE_FX12_goTo {h0 : ph_H} (a0 : Int32) (a1 : Int32) (h : ph_H) (e : EQ pVE h0 h) : EQ pVE h0 (FX12_goTo a0 a1 h) := (EQ_if (frVE_FX12_goTo_19 _  _ e) (EQ_if (EQ_s rfl e) (frVE_FX12_goTo_19 _  _ e)))
theorem frVE_FX12_set {h0 : ph_H} (a0 : Int32) (a1 : Int32) (a2 : Int32) (h : ph_H) (e : EQ pVE h0 h) : EQ pVE h0 (FX12_set a0 a1 a2 h) := (EQ_s rfl (EQ_s rfl e))
theorem frVE_FX12_newThing_29 {h0 : ph_H}  : ∀ (q : Nat) (y0 : Int32) (y1 : Int32) (h : ph_H), EQ pVE h0 h → EQ pVE h0 (FX12_newThing_29  q y0 y1 h).2 := by
  intro q
  induction q with
  | zero =>
    intro y0 y1 h e
    exact e
  | succ q ih =>
    intro y0 y1 h e
    exact (EQ2_if (EQ_s rfl e) (ih _ _ _ (EQ_s rfl e)))
theorem frVE_FX12_newThing {h0 : ph_H} (a0 : Int32) (a1 : Int32) (h : ph_H) (e : EQ pVE h0 h) : EQ pVE h0 (FX12_newThing a0 a1 h).2 := (frVE_FX12_newThing_29   _ _ _ _ (EQ_s rfl (EQ_s rfl (EQ_s rfl e))))
theorem frVE_FX12_work_88 {h0 : ph_H}  (h : ph_H) (e : EQ pVE h0 h) : EQ pVE h0 (FX12_work_88 h) := e
theorem frVE_FX12_work_111 {h0 : ph_H}  (h : ph_H) (e : EQ pVE h0 h) : EQ pVE h0 (FX12_work_111 h) := e
theorem frVE_FX12_work_134 {h0 : ph_H}  (h : ph_H) (e : EQ pVE h0 h) : EQ pVE h0 (FX12_work_134 h) := e
theorem frVE_FX12_work_155 {h0 : ph_H}  (h : ph_H) (e : EQ pVE h0 h) : EQ pVE h0 (FX12_work_155 h) := e
theorem frVE_FX12_work_152 {h0 : ph_H} (s0 : Int32) (s1 : Int32) (s2 : Int32) (h : ph_H) (e : EQ pVE h0 h) : EQ pVE h0 (FX12_work_152 s0 s1 s2 h) := (frVE_FX12_work_155   _ (frVE_FX12_set _ _ _  _ e))
theorem frVE_FX12_work_212 {h0 : ph_H}  (h : ph_H) (e : EQ pVE h0 h) : EQ pVE h0 (FX12_work_212 h) := e
theorem frVE_FX12_work_435 {h0 : ph_H} (L391 : Int32 → Int32 → ph_H → ph_H) (x3 : Int32) (x6 : Int32) (hL391 : ∀ (y0 : Int32) (y1 : Int32) (h : ph_H), EQ pVE h0 h → EQ pVE h0 (L391 y0 y1 h)) (h : ph_H) (e : EQ pVE h0 h) : EQ pVE h0 (FX12_work_435 L391 x3 x6 h) := (hL391 _ _ _ e)
theorem frVE_FX12_work_391 {h0 : ph_H}  : ∀ (q : Nat) (y0 : Int32) (y1 : Int32) (h : ph_H), EQ pVE h0 h → EQ pVE h0 (FX12_work_391  q y0 y1 h) := by
  intro q
  induction q with
  | zero =>
    intro y0 y1 h e
    exact e
  | succ q ih =>
    intro y0 y1 h e
    exact (EQ_if e (EQ_if (frVE_FX12_work_435 _ _ _ ih _ (EQ_s rfl (EQ_s rfl e))) (frVE_FX12_work_435 _ _ _ ih _ e)))
theorem frVE_FX12_work {h0 : ph_H} (a0 : Int32) (a1 : Int32) (a2 : Int32) (a3 : Int32) (a4 : Int32) (h : ph_H) (e : EQ pVE h0 h) : EQ pVE h0 (FX12_work a0 a1 a2 a3 a4 h) := (EQ_if (frVE_FX12_work_88   _ (frVE_FX12_set _ _ _  _ e)) (EQ_if (frVE_FX12_work_111   _ (frVE_FX12_set _ _ _  _ e)) (EQ_if (frVE_FX12_work_134   _ (frVE_FX12_set _ _ _  _ e)) (EQ_if e (EQ_if e (EQ_if (frVE_FX12_work_152 _ _ _  _ (frVE_FX12_newThing _ _  _ e)) (EQ_if (frVE_FX12_work_212   _ (frVE_FX12_set _ _ _  _ (EQ_s rfl e))) (EQ_if (EQ_s rfl (EQ_s rfl e)) (EQ_if e (EQ_if (EQ_s rfl (EQ_s rfl (EQ_s rfl e))) (EQ_if (EQ_s rfl (EQ_s rfl (EQ_s rfl e))) (EQ_if (EQ_s rfl (EQ_s rfl (EQ_s rfl (EQ_s rfl e)))) (EQ_if (frVE_FX12_work_391   _ _ _ _ (EQ_s rfl (EQ_s rfl e))) e)))))))))))))
theorem frVE_FX12_workPlain_116 {h0 : ph_H}  (h : ph_H) (e : EQ pVE h0 h) : EQ pVE h0 (FX12_workPlain_116 h) := e
theorem frVE_FX12_workPlain_153 {h0 : ph_H}  (h : ph_H) (e : EQ pVE h0 h) : EQ pVE h0 (FX12_workPlain_153 h) := e
theorem frVE_FX12_workPlain_191 {h0 : ph_H}  (h : ph_H) (e : EQ pVE h0 h) : EQ pVE h0 (FX12_workPlain_191 h) := e
theorem frVE_FX12_workPlain_222 {h0 : ph_H}  (h : ph_H) (e : EQ pVE h0 h) : EQ pVE h0 (FX12_workPlain_222 h) := e
theorem frVE_FX12_workPlain_219 {h0 : ph_H} (s0 : Int32) (s1 : Int32) (s2 : Int32) (h : ph_H) (e : EQ pVE h0 h) : EQ pVE h0 (FX12_workPlain_219 s0 s1 s2 h) := (frVE_FX12_workPlain_222   _ (frVE_FX12_set _ _ _  _ e))
theorem frVE_FX12_workPlain_206 {h0 : ph_H} (x3 : Int32) (s0 : Int32) (h : ph_H) (e : EQ pVE h0 h) : EQ pVE h0 (FX12_workPlain_206 x3 s0 h) := (frVE_FX12_workPlain_219 _ _ _  _ (frVE_FX12_newThing _ _  _ e))
theorem frVE_FX12_workPlain_259 {h0 : ph_H}  (h : ph_H) (e : EQ pVE h0 h) : EQ pVE h0 (FX12_workPlain_259 h) := (EQ_s rfl e)
theorem frVE_FX12_workPlain_256 {h0 : ph_H} (s0 : Int32) (s1 : Int32) (s2 : Int32) (h : ph_H) (e : EQ pVE h0 h) : EQ pVE h0 (FX12_workPlain_256 s0 s1 s2 h) := (frVE_FX12_workPlain_259   _ (frVE_FX12_set _ _ _  _ e))
theorem frVE_FX12_workPlain {h0 : ph_H} (a0 : Int32) (a1 : Int32) (a2 : Int32) (a3 : Int32) (h : ph_H) (e : EQ pVE h0 h) : EQ pVE h0 (FX12_workPlain a0 a1 a2 a3 h) := (EQ_if (frVE_FX12_workPlain_116   _ (frVE_FX12_set _ _ _  _ e)) (EQ_if (frVE_FX12_workPlain_153   _ (frVE_FX12_set _ _ _  _ (EQ_s rfl e))) (EQ_if (frVE_FX12_workPlain_191   _ (frVE_FX12_set _ _ _  _ (EQ_s rfl e))) (EQ_if e (EQ_if e (EQ_if e (EQ_if e (EQ_if e (EQ_if e (EQ_if e (EQ_if e (EQ_if (EQ_if (frVE_FX12_workPlain_206 _ _  _ e) (frVE_FX12_workPlain_206 _ _  _ e)) (EQ_if e (EQ_if e (EQ_if e (EQ_if e (EQ_if (EQ_if (frVE_FX12_workPlain_256 _ _ _  _ e) (frVE_FX12_workPlain_256 _ _ _  _ e)) (EQ_if (EQ_s rfl (EQ_s rfl (EQ_s rfl e))) e))))))))))))))))))
theorem frVE_FX12_instruct_251 {h0 : ph_H} (s0 : Int32) (s1 : Int32) (h : ph_H) (e : EQ pVE h0 h) : EQ pVE h0 (FX12_instruct_251 s0 s1 h) := (frVE_FX12_goTo _ _  _ e)
theorem frVE_FX12_instruct_204 {h0 : ph_H} (x1 : Int32) (x2 : Int32) (x6 : Int32) (x7 : Int32) (h : ph_H) (e : EQ pVE h0 h) : EQ pVE h0 (FX12_instruct_204 x1 x2 x6 x7 h) := (EQ_if e (EQ_if (frVE_FX12_instruct_251 _ _  _ e) (EQ_if (frVE_FX12_instruct_251 _ _  _ e) (frVE_FX12_instruct_251 _ _  _ e))))
theorem frVE_FX12_instruct_195 {h0 : ph_H} (x1 : Int32) (x2 : Int32) (x3 : Int32) (x4 : Int32) (x6 : Int32) (x7 : Int32) (h : ph_H) (e : EQ pVE h0 h) : EQ pVE h0 (FX12_instruct_195 x1 x2 x3 x4 x6 x7 h) := (frVE_FX12_instruct_204 _ _ _ _  _ (frVE_FX12_workPlain _ _ _ _  _ e))
theorem frVE_FX12_instruct_177 {h0 : ph_H} (x1 : Int32) (x2 : Int32) (x3 : Int32) (x4 : Int32) (x5 : Int32) (x6 : Int32) (s0 : Int32) (h : ph_H) (e : EQ pVE h0 h) : EQ pVE h0 (FX12_instruct_177 x1 x2 x3 x4 x5 x6 s0 h) := (frVE_FX12_instruct_195 _ _ _ _ _ _  _ (frVE_FX12_work _ _ _ _ _  _ e))
theorem frVE_FX12_instruct_149 {h0 : ph_H} (x1 : Int32) (x2 : Int32) (x3 : Int32) (x4 : Int32) (x5 : Int32) (s0 : Int32) (h : ph_H) (e : EQ pVE h0 h) : EQ pVE h0 (FX12_instruct_149 x1 x2 x3 x4 x5 s0 h) := (EQ_if (frVE_FX12_instruct_177 _ _ _ _ _ _ _  _ e) (frVE_FX12_instruct_177 _ _ _ _ _ _ _  _ e))
theorem frVE_FX12_instruct_144 {h0 : ph_H} (x1 : Int32) (x2 : Int32) (x3 : Int32) (x4 : Int32) (x5 : Int32) (h : ph_H) (e : EQ pVE h0 h) : EQ pVE h0 (FX12_instruct_144 x1 x2 x3 x4 x5 h) := (frVE_FX12_instruct_149 _ _ _ _ _ _  _ e)
theorem frVE_FX12_instruct_148 {h0 : ph_H} (x1 : Int32) (x2 : Int32) (x3 : Int32) (x4 : Int32) (x5 : Int32) (h : ph_H) (e : EQ pVE h0 h) : EQ pVE h0 (FX12_instruct_148 x1 x2 x3 x4 x5 h) := (frVE_FX12_instruct_149 _ _ _ _ _ _  _ e)
theorem frVE_FX12_instruct_102 {h0 : ph_H} (x1 : Int32) (x2 : Int32) (x3 : Int32) (x4 : Int32) (x5 : Int32) (s0 : Int32) (h : ph_H) (e : EQ pVE h0 h) : EQ pVE h0 (FX12_instruct_102 x1 x2 x3 x4 x5 s0 h) := (EQ_if (EQ_if (frVE_FX12_instruct_144 _ _ _ _ _  _ (EQ_s rfl e)) (EQ_if (EQ_if (frVE_FX12_instruct_144 _ _ _ _ _  _ (EQ_s rfl e)) (frVE_FX12_instruct_148 _ _ _ _ _  _ (EQ_s rfl e))) (frVE_FX12_instruct_148 _ _ _ _ _  _ (EQ_s rfl e)))) (EQ_s rfl e))
theorem frVE_FX12_instruct_98 {h0 : ph_H} (x1 : Int32) (x2 : Int32) (x3 : Int32) (x4 : Int32) (x5 : Int32) (h : ph_H) (e : EQ pVE h0 h) : EQ pVE h0 (FX12_instruct_98 x1 x2 x3 x4 x5 h) := (frVE_FX12_instruct_102 _ _ _ _ _ _  _ e)
theorem frVE_FX12_instruct {h0 : ph_H} (a0 : Int32) (a1 : Int32) (h : ph_H) (e : EQ pVE h0 h) : EQ pVE h0 (FX12_instruct a0 a1 h) := (EQ_if (EQ_if (frVE_FX12_instruct_98 _ _ _ _ _  _ (EQ_s rfl e)) (frVE_FX12_instruct_102 _ _ _ _ _ _  _ (EQ_s rfl e))) (frVE_FX12_instruct_98 _ _ _ _ _  _ (EQ_s rfl e)))
theorem frVE_FX12_step_154 {h0 : ph_H} (x1 : Int32) (h : ph_H) (e : EQ pVE h0 h) : EQ pVE h0 (FX12_step_154 x1 h) := (EQ_s rfl (EQ_s rfl e))
theorem frVE_FX12_step_110 {h0 : ph_H} (x1 : Int32) (h : ph_H) (e : EQ pVE h0 h) : EQ pVE h0 (FX12_step_110 x1 h) := (frVE_FX12_step_154 _  _ e)
theorem frVE_FX12_step_148 {h0 : ph_H} (x1 : Int32) (x2 : Int32) (h : ph_H) (e : EQ pVE h0 h) : EQ pVE h0 (FX12_step_148 x1 x2 h) := (frVE_FX12_step_154 _  _ (frVE_FX12_instruct _ _  _ e))
theorem frVE_FX12_step {h0 : ph_H} (a0 : Int32) (h : ph_H) (e : EQ pVE h0 h) : EQ pVE h0 (FX12_step a0 h) := (EQ_if (EQ_if (EQ_if (frVE_FX12_step_148 _ _  _ (EQ_s rfl (EQ_s rfl (EQ_s rfl (EQ_s rfl (EQ_s rfl (EQ_s rfl e))))))) (EQ_if (EQ_s rfl (EQ_s rfl (EQ_s rfl (EQ_s rfl (EQ_s rfl (EQ_s rfl (EQ_s rfl e))))))) (frVE_FX12_step_148 _ _  _ (EQ_s rfl (EQ_s rfl (EQ_s rfl (EQ_s rfl (EQ_s rfl (EQ_s rfl e))))))))) (frVE_FX12_step_148 _ _  _ (EQ_s rfl (EQ_s rfl (EQ_s rfl (EQ_s rfl (EQ_s rfl (EQ_s rfl e)))))))) (frVE_FX12_step_110 _  _ (frVE_FX12_goTo _ _  _ (EQ_s rfl (EQ_s rfl (EQ_s rfl (EQ_s rfl (EQ_s rfl (EQ_s rfl (EQ_s rfl (EQ_s rfl (EQ_s rfl (EQ_s rfl e)))))))))))))
theorem frVE_FX12_told {h0 : ph_H} (a0 : Int32) (h : ph_H) (e : EQ pVE h0 h) : EQ pVE h0 (FX12_told a0 h).2 := (EQ2_if (EQ_s rfl e) (EQ2_if (EQ_s rfl e) (EQ2_if (EQ_s rfl e) (EQ2_if (EQ_s rfl e) (EQ2_if (EQ_s rfl e) (EQ2_if (EQ_s rfl e) (EQ2_if (EQ_s rfl e) (EQ2_if (EQ_s rfl e) (EQ2_if (EQ_s rfl e) (EQ_s rfl e))))))))))
theorem frVE_FX12_change_36 {h0 : ph_H}  (h : ph_H) (e : EQ pVE h0 h) : EQ pVE h0 (FX12_change_36 h).2 := e
theorem frVE_FX12_change {h0 : ph_H} (a0 : Int32) (a1 : Int32) (h : ph_H) (e : EQ pVE h0 h) : EQ pVE h0 (FX12_change a0 a1 h).2 := (EQ2_if (EQ_s rfl e) (EQ2_if (frVE_FX12_change_36   _ (EQ_s rfl e)) (EQ2_if (frVE_FX12_change_36   _ (EQ_s rfl e)) (EQ2_if (frVE_FX12_change_36   _ (EQ_s rfl e)) (EQ2_if (EQ_s rfl e) (EQ_s rfl e))))))
theorem frVE_FX12_step_ {h0 : ph_H} (a0 : Int32) (a1 : Int32) (h : ph_H) (e : EQ pVE h0 h) : EQ pVE h0 (FX12_step_ a0 a1 h).2 := (EQ2_if (EQ_s rfl e) (EQ2_if (EQ_s rfl e) (EQ2_if (EQ_s rfl e) (EQ2_if (EQ_s rfl e) (EQ2_if (EQ_s rfl e) (EQ2_if (EQ_s rfl e) (EQ2_if (EQ_s rfl e) (EQ2_if (EQ_s rfl e) (EQ_s rfl e)))))))))
theorem frVE_FX12_play_242 {h0 : ph_H} (L83 : Int32 → Int32 → ph_H → Int32 × ph_H) (x1 : Int32) (x3 : Int32) (hL83 : ∀ (y0 : Int32) (y1 : Int32) (h : ph_H), EQ pVE h0 h → EQ pVE h0 (L83 y0 y1 h).2) (h : ph_H) (e : EQ pVE h0 h) : EQ pVE h0 (FX12_play_242 L83 x1 x3 h).2 := (hL83 _ _ _ e)
theorem frVE_FX12_play_203 {h0 : ph_H} (L83 : Int32 → Int32 → ph_H → Int32 × ph_H) (x1 : Int32) (x3 : Int32) (s0 : Int32) (hL83 : ∀ (y0 : Int32) (y1 : Int32) (h : ph_H), EQ pVE h0 h → EQ pVE h0 (L83 y0 y1 h).2) (h : ph_H) (e : EQ pVE h0 h) : EQ pVE h0 (FX12_play_203 L83 x1 x3 s0 h).2 := (frVE_FX12_play_242 _ _ _ hL83 _ (EQ_s rfl e))
theorem frVE_FX12_play_239 {h0 : ph_H} (L83 : Int32 → Int32 → ph_H → Int32 × ph_H) (x1 : Int32) (x3 : Int32) (s0 : Int32) (hL83 : ∀ (y0 : Int32) (y1 : Int32) (h : ph_H), EQ pVE h0 h → EQ pVE h0 (L83 y0 y1 h).2) (h : ph_H) (e : EQ pVE h0 h) : EQ pVE h0 (FX12_play_239 L83 x1 x3 s0 h).2 := (frVE_FX12_play_242 _ _ _ hL83 _ (EQ_s rfl e))
theorem frVE_FX12_play_215 {h0 : ph_H} (L83 : Int32 → Int32 → ph_H → Int32 × ph_H) (x1 : Int32) (x3 : Int32) (hL83 : ∀ (y0 : Int32) (y1 : Int32) (h : ph_H), EQ pVE h0 h → EQ pVE h0 (L83 y0 y1 h).2) (h : ph_H) (e : EQ pVE h0 h) : EQ pVE h0 (FX12_play_215 L83 x1 x3 h).2 := (EQ2_if (EQ2_if (frVE_FX12_play_239 _ _ _ _ hL83 _ e) (frVE_FX12_play_239 _ _ _ _ hL83 _ e)) (frVE_FX12_play_239 _ _ _ _ hL83 _ e))
theorem frVE_FX12_play_166 {h0 : ph_H} (L83 : Int32 → Int32 → ph_H → Int32 × ph_H) (x1 : Int32) (x3 : Int32) (x5 : Int32) (hL83 : ∀ (y0 : Int32) (y1 : Int32) (h : ph_H), EQ pVE h0 h → EQ pVE h0 (L83 y0 y1 h).2) (h : ph_H) (e : EQ pVE h0 h) : EQ pVE h0 (FX12_play_166 L83 x1 x3 x5 h).2 := (EQ2_if (EQ2_if (EQ2_if (frVE_FX12_play_203 _ _ _ _ hL83 _ e) (frVE_FX12_play_203 _ _ _ _ hL83 _ e)) (frVE_FX12_play_215 _ _ _ hL83 _ (frVE_FX12_step _  _ e))) (frVE_FX12_play_242 _ _ _ hL83 _ (EQ_s rfl e)))
theorem frVE_FX12_play_132 {h0 : ph_H} (L83 : Int32 → Int32 → ph_H → Int32 × ph_H) (x1 : Int32) (x3 : Int32) (x4 : Int32) (s0 : Int32) (hL83 : ∀ (y0 : Int32) (y1 : Int32) (h : ph_H), EQ pVE h0 h → EQ pVE h0 (L83 y0 y1 h).2) (h : ph_H) (e : EQ pVE h0 h) : EQ pVE h0 (FX12_play_132 L83 x1 x3 x4 s0 h).2 := (EQ2_if (frVE_FX12_play_166 _ _ _ _ hL83 _ e) (EQ2_if (frVE_FX12_play_166 _ _ _ _ hL83 _ e) (EQ2_if (frVE_FX12_play_242 _ _ _ hL83 _ (EQ_s rfl e)) (frVE_FX12_play_166 _ _ _ _ hL83 _ e))))
theorem frVE_FX12_play_103 {h0 : ph_H} (L83 : Int32 → Int32 → ph_H → Int32 × ph_H) (x1 : Int32) (x3 : Int32) (s0 : Int32) (hL83 : ∀ (y0 : Int32) (y1 : Int32) (h : ph_H), EQ pVE h0 h → EQ pVE h0 (L83 y0 y1 h).2) (h : ph_H) (e : EQ pVE h0 h) : EQ pVE h0 (FX12_play_103 L83 x1 x3 s0 h).2 := (EQ2_if (frVE_FX12_play_132 _ _ _ _ _ hL83 _ e) (frVE_FX12_play_132 _ _ _ _ _ hL83 _ e))
theorem frVE_FX12_play_83 {h0 : ph_H}  : ∀ (q : Nat) (y0 : Int32) (y1 : Int32) (h : ph_H), EQ pVE h0 h → EQ pVE h0 (FX12_play_83  q y0 y1 h).2 := by
  intro q
  induction q with
  | zero =>
    intro y0 y1 h e
    exact e
  | succ q ih =>
    intro y0 y1 h e
    exact (EQ2_if (EQ_s rfl e) (EQ2_if (frVE_FX12_play_103 _ _ _ _ ih _ e) (frVE_FX12_play_103 _ _ _ _ ih _ e)))
theorem frVE_FX12_play_82 {h0 : ph_H} (x1 : Int32) (s0 : Int32) (h : ph_H) (e : EQ pVE h0 h) : EQ pVE h0 (FX12_play_82 x1 s0 h).2 := (frVE_FX12_play_83   _ _ _ _ e)
theorem frVE_FX12_play_59 {h0 : ph_H} (x1 : Int32) (h : ph_H) (e : EQ pVE h0 h) : EQ pVE h0 (FX12_play_59 x1 h).2 := (EQ2_if (frVE_FX12_play_82 _ _  _ (EQ_s rfl e)) (frVE_FX12_play_82 _ _  _ (EQ_s rfl e)))
theorem frVE_FX12_play {h0 : ph_H} (a0 : Int32) (a1 : Int32) (h : ph_H) (e : EQ pVE h0 h) : EQ pVE h0 (FX12_play a0 a1 h).2 := (EQ2_if (EQ_s rfl e) (EQ2_if (EQ_s rfl e) (EQ2_if (EQ_s rfl e) (frVE_FX12_play_59 _  _ (frVE_FX12_begin   _ (EQ_s rfl (EQ_s rfl (EQ_s rfl e))))))))
theorem frVE_FX12_ended {h0 : ph_H}  (h : ph_H) (e : EQ pVE h0 h) : EQ pVE h0 (FX12_ended h).2 := (EQ_s rfl e)
theorem frVE_FX12_to {h0 : ph_H} (a0 : Int32) (h : ph_H) (e : EQ pVE h0 h) : EQ pVE h0 (FX12_to a0 h).2 := (EQ2_if (EQ_s rfl e) (EQ2_if (EQ_s rfl e) (EQ_s rfl (EQ_s rfl e))))
theorem frVE_FX12_back {h0 : ph_H} (a0 : Int32) (h : ph_H) (e : EQ pVE h0 h) : EQ pVE h0 (FX12_back a0 h).2 := (EQ2_if (EQ_s rfl e) (EQ2_if (EQ_s rfl e) (EQ2_if (EQ_s rfl (EQ_s rfl e)) (EQ_s rfl e))))
theorem frVE_FX12_value_119 {h0 : ph_H} (x3 : Int32) (s0 : Int32) (s1 : Int32) (h : ph_H) (e : EQ pVE h0 h) : EQ pVE h0 (FX12_value_119 x3 s0 s1 h).2 := (EQ2_if e e)
theorem frVE_FX12_value_83 {h0 : ph_H} (x1 : Int32) (x2 : Int32) (x3 : Int32) (s0 : Int32) (h : ph_H) (e : EQ pVE h0 h) : EQ pVE h0 (FX12_value_83 x1 x2 x3 s0 h).2 := (EQ2_if (EQ2_if (frVE_FX12_value_119 _ _ _  _ (EQ_s rfl e)) (frVE_FX12_value_119 _ _ _  _ (EQ_s rfl e))) (EQ_s rfl e))
theorem frVE_FX12_value_59 {h0 : ph_H} (x1 : Int32) (x2 : Int32) (x3 : Int32) (s0 : Int32) (h : ph_H) (e : EQ pVE h0 h) : EQ pVE h0 (FX12_value_59 x1 x2 x3 s0 h).2 := (EQ2_if (frVE_FX12_value_83 _ _ _ _  _ e) (EQ2_if (frVE_FX12_value_83 _ _ _ _  _ e) (frVE_FX12_value_83 _ _ _ _  _ e)))
theorem frVE_FX12_value_54 {h0 : ph_H} (x1 : Int32) (x2 : Int32) (x3 : Int32) (h : ph_H) (e : EQ pVE h0 h) : EQ pVE h0 (FX12_value_54 x1 x2 x3 h).2 := (frVE_FX12_value_59 _ _ _ _  _ e)
theorem frVE_FX12_value_58 {h0 : ph_H} (x1 : Int32) (x2 : Int32) (x3 : Int32) (h : ph_H) (e : EQ pVE h0 h) : EQ pVE h0 (FX12_value_58 x1 x2 x3 h).2 := (frVE_FX12_value_59 _ _ _ _  _ e)
theorem frVE_FX12_value {h0 : ph_H} (a0 : Int32) (a1 : Int32) (a2 : Int32) (h : ph_H) (e : EQ pVE h0 h) : EQ pVE h0 (FX12_value a0 a1 a2 h).2 := (EQ2_if (frVE_FX12_value_58 _ _ _  _ e) (EQ2_if (EQ2_if (frVE_FX12_value_58 _ _ _  _ e) (frVE_FX12_value_54 _ _ _  _ e)) (EQ2_if (frVE_FX12_value_58 _ _ _  _ e) (EQ2_if (frVE_FX12_value_58 _ _ _  _ e) (frVE_FX12_value_54 _ _ _  _ e)))))
theorem frVE_FX12_thing {h0 : ph_H} (a0 : Int32) (a1 : Int32) (h : ph_H) (e : EQ pVE h0 h) : EQ pVE h0 (FX12_thing a0 a1 h).2 := (EQ2_if (EQ_s rfl e) (EQ2_if (EQ_s rfl e) (EQ2_if (EQ_s rfl e) (EQ2_if (EQ_s rfl e) (EQ2_if (EQ_s rfl e) (EQ2_if (EQ_s rfl e) (EQ_s rfl e)))))))
theorem frVE_FX12_place_79 {h0 : ph_H} (x1 : Int32) (x2 : Int32) (x3 : Int32) (s0 : Int32) (h : ph_H) (e : EQ pVE h0 h) : EQ pVE h0 (FX12_place_79 x1 x2 x3 s0 h).2 := (EQ2_if (EQ_s rfl e) (EQ_s rfl e))
theorem frVE_FX12_place_57 {h0 : ph_H} (x1 : Int32) (x2 : Int32) (s0 : Int32) (h : ph_H) (e : EQ pVE h0 h) : EQ pVE h0 (FX12_place_57 x1 x2 s0 h).2 := (EQ2_if (frVE_FX12_place_79 _ _ _ _  _ e) (EQ2_if (frVE_FX12_place_79 _ _ _ _  _ e) (frVE_FX12_place_79 _ _ _ _  _ e)))
theorem frVE_FX12_place_56 {h0 : ph_H} (x1 : Int32) (x2 : Int32) (h : ph_H) (e : EQ pVE h0 h) : EQ pVE h0 (FX12_place_56 x1 x2 h).2 := (frVE_FX12_place_57 _ _ _  _ e)
theorem frVE_FX12_place {h0 : ph_H} (a0 : Int32) (a1 : Int32) (h : ph_H) (e : EQ pVE h0 h) : EQ pVE h0 (FX12_place a0 a1 h).2 := (EQ2_if (frVE_FX12_place_56 _ _  _ e) (EQ2_if (EQ2_if (frVE_FX12_place_56 _ _  _ e) (frVE_FX12_place_57 _ _ _  _ e)) (frVE_FX12_place_56 _ _  _ e)))
theorem frVE_FX12_thread {h0 : ph_H} (a0 : Int32) (a1 : Int32) (h : ph_H) (e : EQ pVE h0 h) : EQ pVE h0 (FX12_thread a0 a1 h).2 := (EQ2_if (EQ_s rfl e) (EQ2_if (EQ_s rfl e) (EQ2_if (EQ_s rfl e) (EQ2_if (EQ_s rfl e) (EQ_s rfl e)))))
theorem frVE_FX12_last_63 {h0 : ph_H} (L36 : Int32 → Int32 → Int32 → Int32 → ph_H → Int32 × ph_H) (x1 : Int32) (x2 : Int32) (x4 : Int32) (s0 : Int32) (hL36 : ∀ (y0 : Int32) (y1 : Int32) (y2 : Int32) (y3 : Int32) (h : ph_H), EQ pVE h0 h → EQ pVE h0 (L36 y0 y1 y2 y3 h).2) (h : ph_H) (e : EQ pVE h0 h) : EQ pVE h0 (FX12_last_63 L36 x1 x2 x4 s0 h).2 := (hL36 _ _ _ _ _ e)
theorem frVE_FX12_last_62 {h0 : ph_H} (L36 : Int32 → Int32 → Int32 → Int32 → ph_H → Int32 × ph_H) (x1 : Int32) (x2 : Int32) (x3 : Int32) (x4 : Int32) (hL36 : ∀ (y0 : Int32) (y1 : Int32) (y2 : Int32) (y3 : Int32) (h : ph_H), EQ pVE h0 h → EQ pVE h0 (L36 y0 y1 y2 y3 h).2) (h : ph_H) (e : EQ pVE h0 h) : EQ pVE h0 (FX12_last_62 L36 x1 x2 x3 x4 h).2 := (frVE_FX12_last_63 _ _ _ _ _ hL36 _ e)
theorem frVE_FX12_last_36 {h0 : ph_H}  : ∀ (q : Nat) (y0 : Int32) (y1 : Int32) (y2 : Int32) (y3 : Int32) (h : ph_H), EQ pVE h0 h → EQ pVE h0 (FX12_last_36  q y0 y1 y2 y3 h).2 := by
  intro q
  induction q with
  | zero =>
    intro y0 y1 y2 y3 h e
    exact e
  | succ q ih =>
    intro y0 y1 y2 y3 h e
    exact (EQ2_if e (EQ2_if (EQ2_if (frVE_FX12_last_62 _ _ _ _ _ ih _ e) (frVE_FX12_last_63 _ _ _ _ _ ih _ e)) (frVE_FX12_last_62 _ _ _ _ _ ih _ e)))
theorem frVE_FX12_last {h0 : ph_H} (a0 : Int32) (a1 : Int32) (h : ph_H) (e : EQ pVE h0 h) : EQ pVE h0 (FX12_last a0 a1 h).2 := (EQ2_if (EQ_s rfl e) (EQ2_if (EQ_s rfl e) (frVE_FX12_last_36   _ _ _ _ _ _ (EQ_s rfl e))))
theorem frVE_FX12_next_59 {h0 : ph_H} (L35 : Int32 → Int32 → ph_H → Int32 × ph_H) (x1 : Int32) (x3 : Int32) (hL35 : ∀ (y0 : Int32) (y1 : Int32) (h : ph_H), EQ pVE h0 h → EQ pVE h0 (L35 y0 y1 h).2) (h : ph_H) (e : EQ pVE h0 h) : EQ pVE h0 (FX12_next_59 L35 x1 x3 h).2 := (hL35 _ _ _ e)
theorem frVE_FX12_next_35 {h0 : ph_H}  : ∀ (q : Nat) (y0 : Int32) (y1 : Int32) (h : ph_H), EQ pVE h0 h → EQ pVE h0 (FX12_next_35  q y0 y1 h).2 := by
  intro q
  induction q with
  | zero =>
    intro y0 y1 h e
    exact e
  | succ q ih =>
    intro y0 y1 h e
    exact (EQ2_if e (EQ2_if (EQ2_if (frVE_FX12_next_59 _ _ _ ih _ e) e) (frVE_FX12_next_59 _ _ _ ih _ e)))
theorem frVE_FX12_next {h0 : ph_H} (a0 : Int32) (a1 : Int32) (h : ph_H) (e : EQ pVE h0 h) : EQ pVE h0 (FX12_next a0 a1 h).2 := (EQ2_if (EQ_s rfl e) (EQ2_if (EQ_s rfl e) (frVE_FX12_next_35   _ _ _ _ (EQ_s rfl e))))
theorem frVE_FX12_when_166 {h0 : ph_H} (L54 : Int32 → Int32 → Int32 → Int32 → Int32 → Int32 → Int32 → Int32 → ph_H → Int32 × ph_H) (x1 : Int32) (x2 : Int32) (x3 : Int32) (x4 : Int32) (x5 : Int32) (x7 : Int32) (x8 : Int32) (x9 : Int32) (hL54 : ∀ (y0 : Int32) (y1 : Int32) (y2 : Int32) (y3 : Int32) (y4 : Int32) (y5 : Int32) (y6 : Int32) (y7 : Int32) (h : ph_H), EQ pVE h0 h → EQ pVE h0 (L54 y0 y1 y2 y3 y4 y5 y6 y7 h).2) (h : ph_H) (e : EQ pVE h0 h) : EQ pVE h0 (FX12_when_166 L54 x1 x2 x3 x4 x5 x7 x8 x9 h).2 := (hL54 _ _ _ _ _ _ _ _ _ e)
theorem frVE_FX12_when_163 {h0 : ph_H} (L54 : Int32 → Int32 → Int32 → Int32 → Int32 → Int32 → Int32 → Int32 → ph_H → Int32 × ph_H) (x1 : Int32) (x2 : Int32) (x3 : Int32) (x4 : Int32) (x5 : Int32) (x7 : Int32) (x8 : Int32) (x9 : Int32) (hL54 : ∀ (y0 : Int32) (y1 : Int32) (y2 : Int32) (y3 : Int32) (y4 : Int32) (y5 : Int32) (y6 : Int32) (y7 : Int32) (h : ph_H), EQ pVE h0 h → EQ pVE h0 (L54 y0 y1 y2 y3 y4 y5 y6 y7 h).2) (h : ph_H) (e : EQ pVE h0 h) : EQ pVE h0 (FX12_when_163 L54 x1 x2 x3 x4 x5 x7 x8 x9 h).2 := (frVE_FX12_when_166 _ _ _ _ _ _ _ _ _ hL54 _ e)
theorem frVE_FX12_when_126 {h0 : ph_H} (L54 : Int32 → Int32 → Int32 → Int32 → Int32 → Int32 → Int32 → Int32 → ph_H → Int32 × ph_H) (x1 : Int32) (x2 : Int32) (x3 : Int32) (x4 : Int32) (x5 : Int32) (x6 : Int32) (x7 : Int32) (x8 : Int32) (x9 : Int32) (hL54 : ∀ (y0 : Int32) (y1 : Int32) (y2 : Int32) (y3 : Int32) (y4 : Int32) (y5 : Int32) (y6 : Int32) (y7 : Int32) (h : ph_H), EQ pVE h0 h → EQ pVE h0 (L54 y0 y1 y2 y3 y4 y5 y6 y7 h).2) (h : ph_H) (e : EQ pVE h0 h) : EQ pVE h0 (FX12_when_126 L54 x1 x2 x3 x4 x5 x6 x7 x8 x9 h).2 := (EQ2_if (EQ2_if (frVE_FX12_when_166 _ _ _ _ _ _ _ _ _ hL54 _ e) (EQ2_if (EQ2_if (frVE_FX12_when_163 _ _ _ _ _ _ _ _ _ hL54 _ e) (EQ2_if e e)) (frVE_FX12_when_163 _ _ _ _ _ _ _ _ _ hL54 _ e))) (frVE_FX12_when_166 _ _ _ _ _ _ _ _ _ hL54 _ e))
theorem frVE_FX12_when_110 {h0 : ph_H} (L54 : Int32 → Int32 → Int32 → Int32 → Int32 → Int32 → Int32 → Int32 → ph_H → Int32 × ph_H) (x1 : Int32) (x2 : Int32) (x3 : Int32) (x4 : Int32) (x5 : Int32) (x6 : Int32) (x7 : Int32) (x8 : Int32) (s0 : Int32) (hL54 : ∀ (y0 : Int32) (y1 : Int32) (y2 : Int32) (y3 : Int32) (y4 : Int32) (y5 : Int32) (y6 : Int32) (y7 : Int32) (h : ph_H), EQ pVE h0 h → EQ pVE h0 (L54 y0 y1 y2 y3 y4 y5 y6 y7 h).2) (h : ph_H) (e : EQ pVE h0 h) : EQ pVE h0 (FX12_when_110 L54 x1 x2 x3 x4 x5 x6 x7 x8 s0 h).2 := (EQ2_if (frVE_FX12_when_126 _ _ _ _ _ _ _ _ _ _ hL54 _ e) (EQ2_if (frVE_FX12_when_126 _ _ _ _ _ _ _ _ _ _ hL54 _ e) (frVE_FX12_when_126 _ _ _ _ _ _ _ _ _ _ hL54 _ e)))
theorem frVE_FX12_when_109 {h0 : ph_H} (L54 : Int32 → Int32 → Int32 → Int32 → Int32 → Int32 → Int32 → Int32 → ph_H → Int32 × ph_H) (x1 : Int32) (x2 : Int32) (x3 : Int32) (x4 : Int32) (x5 : Int32) (x6 : Int32) (x7 : Int32) (x8 : Int32) (hL54 : ∀ (y0 : Int32) (y1 : Int32) (y2 : Int32) (y3 : Int32) (y4 : Int32) (y5 : Int32) (y6 : Int32) (y7 : Int32) (h : ph_H), EQ pVE h0 h → EQ pVE h0 (L54 y0 y1 y2 y3 y4 y5 y6 y7 h).2) (h : ph_H) (e : EQ pVE h0 h) : EQ pVE h0 (FX12_when_109 L54 x1 x2 x3 x4 x5 x6 x7 x8 h).2 := (frVE_FX12_when_110 _ _ _ _ _ _ _ _ _ _ hL54 _ e)
theorem frVE_FX12_when_54 {h0 : ph_H}  : ∀ (q : Nat) (y0 : Int32) (y1 : Int32) (y2 : Int32) (y3 : Int32) (y4 : Int32) (y5 : Int32) (y6 : Int32) (y7 : Int32) (h : ph_H), EQ pVE h0 h → EQ pVE h0 (FX12_when_54  q y0 y1 y2 y3 y4 y5 y6 y7 h).2 := by
  intro q
  induction q with
  | zero =>
    intro y0 y1 y2 y3 y4 y5 y6 y7 h e
    exact e
  | succ q ih =>
    intro y0 y1 y2 y3 y4 y5 y6 y7 h e
    exact (EQ2_if (EQ2_if e e) (EQ2_if (frVE_FX12_when_109 _ _ _ _ _ _ _ _ _ ih _ e) (EQ2_if (EQ2_if (frVE_FX12_when_110 _ _ _ _ _ _ _ _ _ _ ih _ e) (frVE_FX12_when_109 _ _ _ _ _ _ _ _ _ ih _ e)) (frVE_FX12_when_109 _ _ _ _ _ _ _ _ _ ih _ e))))
theorem frVE_FX12_when {h0 : ph_H} (a0 : Int32) (a1 : Int32) (a2 : Int32) (a3 : Int32) (h : ph_H) (e : EQ pVE h0 h) : EQ pVE h0 (FX12_when a0 a1 a2 a3 h).2 := (EQ2_if (EQ_s rfl e) (EQ2_if (EQ_s rfl e) (EQ2_if (EQ_s rfl e) (frVE_FX12_when_54   _ _ _ _ _ _ _ _ _ _ (EQ_s rfl e)))))
theorem frVE_FX12_differ_117 {h0 : ph_H} (L50 : Int32 → Int32 → Int32 → Int32 → ph_H → Int32 × ph_H) (x1 : Int32) (x2 : Int32) (x4 : Int32) (s0 : Int32) (s1 : Int32) (hL50 : ∀ (y0 : Int32) (y1 : Int32) (y2 : Int32) (y3 : Int32) (h : ph_H), EQ pVE h0 h → EQ pVE h0 (L50 y0 y1 y2 y3 h).2) (h : ph_H) (e : EQ pVE h0 h) : EQ pVE h0 (FX12_differ_117 L50 x1 x2 x4 s0 s1 h).2 := (hL50 _ _ _ _ _ e)
theorem frVE_FX12_differ_112 {h0 : ph_H} (L50 : Int32 → Int32 → Int32 → Int32 → ph_H → Int32 × ph_H) (x1 : Int32) (x2 : Int32) (x4 : Int32) (s0 : Int32) (hL50 : ∀ (y0 : Int32) (y1 : Int32) (y2 : Int32) (y3 : Int32) (h : ph_H), EQ pVE h0 h → EQ pVE h0 (L50 y0 y1 y2 y3 h).2) (h : ph_H) (e : EQ pVE h0 h) : EQ pVE h0 (FX12_differ_112 L50 x1 x2 x4 s0 h).2 := (frVE_FX12_differ_117 _ _ _ _ _ _ hL50 _ e)
theorem frVE_FX12_differ_165 {h0 : ph_H} (L128 : Int32 → Int32 → Int32 → Int32 → ph_H → Int32 × ph_H) (x1 : Int32) (x2 : Int32) (x4 : Int32) (s0 : Int32) (s1 : Int32) (hL128 : ∀ (y0 : Int32) (y1 : Int32) (y2 : Int32) (y3 : Int32) (h : ph_H), EQ pVE h0 h → EQ pVE h0 (L128 y0 y1 y2 y3 h).2) (h : ph_H) (e : EQ pVE h0 h) : EQ pVE h0 (FX12_differ_165 L128 x1 x2 x4 s0 s1 h).2 := (hL128 _ _ _ _ _ e)
theorem frVE_FX12_differ_128 {h0 : ph_H}  : ∀ (q : Nat) (y0 : Int32) (y1 : Int32) (y2 : Int32) (y3 : Int32) (h : ph_H), EQ pVE h0 h → EQ pVE h0 (FX12_differ_128  q y0 y1 y2 y3 h).2 := by
  intro q
  induction q with
  | zero =>
    intro y0 y1 y2 y3 h e
    exact e
  | succ q ih =>
    intro y0 y1 y2 y3 h e
    exact (EQ2_if e (EQ2_if (frVE_FX12_differ_165 _ _ _ _ _ _ ih _ e) (frVE_FX12_differ_165 _ _ _ _ _ _ ih _ e)))
theorem frVE_FX12_differ_50 {h0 : ph_H}  : ∀ (q : Nat) (y0 : Int32) (y1 : Int32) (y2 : Int32) (y3 : Int32) (h : ph_H), EQ pVE h0 h → EQ pVE h0 (FX12_differ_50  q y0 y1 y2 y3 h).2 := by
  intro q
  induction q with
  | zero =>
    intro y0 y1 y2 y3 h e
    exact e
  | succ q ih =>
    intro y0 y1 y2 y3 h e
    exact (EQ2_if (frVE_FX12_differ_128   _ _ _ _ _ _ e) (EQ2_if (EQ2_if (frVE_FX12_differ_117 _ _ _ _ _ _ ih _ e) (frVE_FX12_differ_112 _ _ _ _ _ ih _ e)) (frVE_FX12_differ_112 _ _ _ _ _ ih _ e)))
theorem frVE_FX12_differ {h0 : ph_H} (a0 : Int32) (a1 : Int32) (h : ph_H) (e : EQ pVE h0 h) : EQ pVE h0 (FX12_differ a0 a1 h).2 := (EQ2_if (EQ_s rfl e) (EQ2_if (EQ_s rfl e) (EQ2_if (EQ_s rfl e) (frVE_FX12_differ_50   _ _ _ _ _ _ (EQ_s rfl e)))))
theorem frVE_FX12_tryRun_38 {h0 : ph_H} (L12 : Int32 → Int32 → ph_H → Int32 × ph_H) (x1 : Int32) (hL12 : ∀ (y0 : Int32) (y1 : Int32) (h : ph_H), EQ pVE h0 h → EQ pVE h0 (L12 y0 y1 h).2) (h : ph_H) (e : EQ pVE h0 h) : EQ pVE h0 (FX12_tryRun_38 L12 x1 h).2 := (EQ2_if (hL12 _ _ _ e) (EQ2_if (EQ2_if e (EQ2_if e (EQ2_if e (EQ2_if e (EQ2_if e (hL12 _ _ _ e)))))) (hL12 _ _ _ e)))
theorem frVE_FX12_tryRun_127 {h0 : ph_H} (x1 : Int32) (h : ph_H) (e : EQ pVE h0 h) : EQ pVE h0 (FX12_tryRun_127 x1 h).2 := (EQ2_if e e)
theorem frVE_FX12_tryRun_12 {h0 : ph_H}  : ∀ (q : Nat) (y0 : Int32) (y1 : Int32) (h : ph_H), EQ pVE h0 h → EQ pVE h0 (FX12_tryRun_12  q y0 y1 h).2 := by
  intro q
  induction q with
  | zero =>
    intro y0 y1 h e
    exact e
  | succ q ih =>
    intro y0 y1 h e
    exact (EQ2_if (frVE_FX12_tryRun_127 _  _ e) (EQ2_if (EQ2_if (frVE_FX12_tryRun_127 _  _ e) (frVE_FX12_tryRun_38 _ _ ih _ (frVE_FX12_step _  _ e))) (frVE_FX12_tryRun_127 _  _ e)))
theorem frVE_FX12_tryRun_4 {h0 : ph_H}  (h : ph_H) (e : EQ pVE h0 h) : EQ pVE h0 (FX12_tryRun_4 h).2 := (frVE_FX12_tryRun_12   _ _ _ _ e)
theorem frVE_FX12_tryRun {h0 : ph_H}  (h : ph_H) (e : EQ pVE h0 h) : EQ pVE h0 (FX12_tryRun h).2 := (frVE_FX12_tryRun_4   _ (frVE_FX12_begin   _ e))
theorem frVE_FX12_isOver_103 {h0 : ph_H}  (h : ph_H) (e : EQ pVE h0 h) : EQ pVE h0 (FX12_isOver_103 h).2 := e
theorem frVE_FX12_isOver_85 {h0 : ph_H}  (h : ph_H) (e : EQ pVE h0 h) : EQ pVE h0 (FX12_isOver_85 h).2 := (EQ2_if (frVE_FX12_isOver_103   _ e) (EQ2_if (frVE_FX12_isOver_103   _ e) e))
theorem frVE_FX12_isOver_42 {h0 : ph_H}  : ∀ (q : Nat) (y0 : Int32) (h : ph_H), EQ pVE h0 h → EQ pVE h0 (FX12_isOver_42  q y0 h).2 := by
  intro q
  induction q with
  | zero =>
    intro y0 h e
    exact e
  | succ q ih =>
    intro y0 h e
    exact (EQ2_if (frVE_FX12_isOver_85   _ (EQ_s rfl e)) (ih _ _ (EQ_s rfl (EQ_s rfl e))))
theorem frVE_FX12_isOver {h0 : ph_H}  (h : ph_H) (e : EQ pVE h0 h) : EQ pVE h0 (FX12_isOver h).2 := (EQ2_if (frVE_FX12_isOver_85   _ (EQ_s rfl e)) (EQ2_if (frVE_FX12_isOver_42   _ _ _ (EQ_s rfl (EQ_s rfl (EQ_s rfl e)))) (frVE_FX12_isOver_85   _ (EQ_s rfl e))))
theorem frVE_FX12_tryLast_57 {h0 : ph_H} (L3 : Int32 → Int32 → Int32 → ph_H → Int32 × ph_H) (L12 : Int32 → Int32 → Int32 → Int32 → ph_H → Int32 × ph_H) (x1 : Int32) (x3 : Int32) (x4 : Int32) (x5 : Int32) (hL3 : ∀ (y0 : Int32) (y1 : Int32) (y2 : Int32) (h : ph_H), EQ pVE h0 h → EQ pVE h0 (L3 y0 y1 y2 h).2) (hL12 : ∀ (y0 : Int32) (y1 : Int32) (y2 : Int32) (y3 : Int32) (h : ph_H), EQ pVE h0 h → EQ pVE h0 (L12 y0 y1 y2 y3 h).2) (h : ph_H) (e : EQ pVE h0 h) : EQ pVE h0 (FX12_tryLast_57 L3 L12 x1 x3 x4 x5 h).2 := (hL12 _ _ _ _ _ e)
theorem frVE_FX12_tryLast_52 {h0 : ph_H} (L3 : Int32 → Int32 → Int32 → ph_H → Int32 × ph_H) (L12 : Int32 → Int32 → Int32 → Int32 → ph_H → Int32 × ph_H) (x1 : Int32) (x3 : Int32) (x4 : Int32) (x5 : Int32) (s0 : Int32) (hL3 : ∀ (y0 : Int32) (y1 : Int32) (y2 : Int32) (h : ph_H), EQ pVE h0 h → EQ pVE h0 (L3 y0 y1 y2 h).2) (hL12 : ∀ (y0 : Int32) (y1 : Int32) (y2 : Int32) (y3 : Int32) (h : ph_H), EQ pVE h0 h → EQ pVE h0 (L12 y0 y1 y2 y3 h).2) (h : ph_H) (e : EQ pVE h0 h) : EQ pVE h0 (FX12_tryLast_52 L3 L12 x1 x3 x4 x5 s0 h).2 := (EQ2_if (frVE_FX12_tryLast_57 _ _ _ _ _ _ hL3 hL12 _ e) e)
theorem frVE_FX12_tryLast_45 {h0 : ph_H} (L3 : Int32 → Int32 → Int32 → ph_H → Int32 × ph_H) (L12 : Int32 → Int32 → Int32 → Int32 → ph_H → Int32 × ph_H) (x1 : Int32) (x3 : Int32) (x4 : Int32) (x5 : Int32) (s0 : Int32) (hL3 : ∀ (y0 : Int32) (y1 : Int32) (y2 : Int32) (h : ph_H), EQ pVE h0 h → EQ pVE h0 (L3 y0 y1 y2 h).2) (hL12 : ∀ (y0 : Int32) (y1 : Int32) (y2 : Int32) (y3 : Int32) (h : ph_H), EQ pVE h0 h → EQ pVE h0 (L12 y0 y1 y2 y3 h).2) (h : ph_H) (e : EQ pVE h0 h) : EQ pVE h0 (FX12_tryLast_45 L3 L12 x1 x3 x4 x5 s0 h).2 := (EQ2_if (frVE_FX12_tryLast_57 _ _ _ _ _ _ hL3 hL12 _ e) (frVE_FX12_tryLast_52 _ _ _ _ _ _ _ hL3 hL12 _ (frVE_FX12_isOver   _ e)))
theorem frVE_FX12_tryLast_12 {h0 : ph_H} (L3 : Int32 → Int32 → Int32 → ph_H → Int32 × ph_H) (hL3 : ∀ (y0 : Int32) (y1 : Int32) (y2 : Int32) (h : ph_H), EQ pVE h0 h → EQ pVE h0 (L3 y0 y1 y2 h).2) : ∀ (q : Nat) (y0 : Int32) (y1 : Int32) (y2 : Int32) (y3 : Int32) (h : ph_H), EQ pVE h0 h → EQ pVE h0 (FX12_tryLast_12 L3 q y0 y1 y2 y3 h).2 := by
  intro q
  induction q with
  | zero =>
    intro y0 y1 y2 y3 h e
    exact e
  | succ q ih =>
    intro y0 y1 y2 y3 h e
    exact (EQ2_if (hL3 _ _ _ _ e) (frVE_FX12_tryLast_45 _ _ _ _ _ _ _ hL3 ih _ (frVE_FX12_tryRun   _ (EQ_s rfl (EQ_s rfl (EQ_s rfl e))))))
theorem frVE_FX12_tryLast_3 {h0 : ph_H}  : ∀ (q : Nat) (y0 : Int32) (y1 : Int32) (y2 : Int32) (h : ph_H), EQ pVE h0 h → EQ pVE h0 (FX12_tryLast_3  q y0 y1 y2 h).2 := by
  intro q
  induction q with
  | zero =>
    intro y0 y1 y2 h e
    exact e
  | succ q ih =>
    intro y0 y1 y2 h e
    exact (EQ2_if e (frVE_FX12_tryLast_12 _ ih _ _ _ _ _ _ e))
theorem frVE_FX12_tryLast {h0 : ph_H} (a0 : Int32) (a1 : Int32) (a2 : Int32) (h : ph_H) (e : EQ pVE h0 h) : EQ pVE h0 (FX12_tryLast a0 a1 a2 h).2 := (frVE_FX12_tryLast_3   _ _ _ _ _ e)
theorem frVE_FX12_tryBoth_61 {h0 : ph_H} (L2 : Int32 → Int32 → ph_H → Int32 × ph_H) (L9 : Int32 → Int32 → Int32 → ph_H → Int32 × ph_H) (x1 : Int32) (x2 : Int32) (x3 : Int32) (hL2 : ∀ (y0 : Int32) (y1 : Int32) (h : ph_H), EQ pVE h0 h → EQ pVE h0 (L2 y0 y1 h).2) (hL9 : ∀ (y0 : Int32) (y1 : Int32) (y2 : Int32) (h : ph_H), EQ pVE h0 h → EQ pVE h0 (L9 y0 y1 y2 h).2) (h : ph_H) (e : EQ pVE h0 h) : EQ pVE h0 (FX12_tryBoth_61 L2 L9 x1 x2 x3 h).2 := (hL9 _ _ _ _ e)
theorem frVE_FX12_tryBoth_56 {h0 : ph_H} (L2 : Int32 → Int32 → ph_H → Int32 × ph_H) (L9 : Int32 → Int32 → Int32 → ph_H → Int32 × ph_H) (x1 : Int32) (x2 : Int32) (x3 : Int32) (s0 : Int32) (hL2 : ∀ (y0 : Int32) (y1 : Int32) (h : ph_H), EQ pVE h0 h → EQ pVE h0 (L2 y0 y1 h).2) (hL9 : ∀ (y0 : Int32) (y1 : Int32) (y2 : Int32) (h : ph_H), EQ pVE h0 h → EQ pVE h0 (L9 y0 y1 y2 h).2) (h : ph_H) (e : EQ pVE h0 h) : EQ pVE h0 (FX12_tryBoth_56 L2 L9 x1 x2 x3 s0 h).2 := (EQ2_if (frVE_FX12_tryBoth_61 _ _ _ _ _ hL2 hL9 _ e) e)
theorem frVE_FX12_tryBoth_37 {h0 : ph_H} (L2 : Int32 → Int32 → ph_H → Int32 × ph_H) (L9 : Int32 → Int32 → Int32 → ph_H → Int32 × ph_H) (x1 : Int32) (x2 : Int32) (x3 : Int32) (s0 : Int32) (hL2 : ∀ (y0 : Int32) (y1 : Int32) (h : ph_H), EQ pVE h0 h → EQ pVE h0 (L2 y0 y1 h).2) (hL9 : ∀ (y0 : Int32) (y1 : Int32) (y2 : Int32) (h : ph_H), EQ pVE h0 h → EQ pVE h0 (L9 y0 y1 y2 h).2) (h : ph_H) (e : EQ pVE h0 h) : EQ pVE h0 (FX12_tryBoth_37 L2 L9 x1 x2 x3 s0 h).2 := (EQ2_if (frVE_FX12_tryBoth_61 _ _ _ _ _ hL2 hL9 _ e) (frVE_FX12_tryBoth_56 _ _ _ _ _ _ hL2 hL9 _ (frVE_FX12_tryLast _ _ _  _ e)))
theorem frVE_FX12_tryBoth_9 {h0 : ph_H} (L2 : Int32 → Int32 → ph_H → Int32 × ph_H) (hL2 : ∀ (y0 : Int32) (y1 : Int32) (h : ph_H), EQ pVE h0 h → EQ pVE h0 (L2 y0 y1 h).2) : ∀ (q : Nat) (y0 : Int32) (y1 : Int32) (y2 : Int32) (h : ph_H), EQ pVE h0 h → EQ pVE h0 (FX12_tryBoth_9 L2 q y0 y1 y2 h).2 := by
  intro q
  induction q with
  | zero =>
    intro y0 y1 y2 h e
    exact e
  | succ q ih =>
    intro y0 y1 y2 h e
    exact (EQ2_if (hL2 _ _ _ e) (frVE_FX12_tryBoth_37 _ _ _ _ _ _ hL2 ih _ (frVE_FX12_tryRun   _ (EQ_s rfl (EQ_s rfl (EQ_s rfl e))))))
theorem frVE_FX12_tryBoth_2 {h0 : ph_H}  : ∀ (q : Nat) (y0 : Int32) (y1 : Int32) (h : ph_H), EQ pVE h0 h → EQ pVE h0 (FX12_tryBoth_2  q y0 y1 h).2 := by
  intro q
  induction q with
  | zero =>
    intro y0 y1 h e
    exact e
  | succ q ih =>
    intro y0 y1 h e
    exact (EQ2_if e (frVE_FX12_tryBoth_9 _ ih _ _ _ _ _ e))
theorem frVE_FX12_tryBoth {h0 : ph_H} (a0 : Int32) (h : ph_H) (e : EQ pVE h0 h) : EQ pVE h0 (FX12_tryBoth a0 h).2 := (frVE_FX12_tryBoth_2   _ _ _ _ e)
theorem frVE_FX12_find_119 {h0 : ph_H}  (h : ph_H) (e : EQ pVE h0 h) : EQ pVE h0 (FX12_find_119 h).2 := e
theorem frVE_FX12_find_116 {h0 : ph_H} (s0 : Int32) (h : ph_H) (e : EQ pVE h0 h) : EQ pVE h0 (FX12_find_116 s0 h).2 := (EQ2_if e (frVE_FX12_find_119   _ e))
theorem frVE_FX12_find_98 {h0 : ph_H} (x1 : Int32) (x4 : Int32) (s0 : Int32) (h : ph_H) (e : EQ pVE h0 h) : EQ pVE h0 (FX12_find_98 x1 x4 s0 h).2 := (EQ2_if (EQ2_if (frVE_FX12_find_119   _ e) (frVE_FX12_find_116 _  _ (frVE_FX12_tryBoth _  _ e))) (frVE_FX12_find_119   _ e))
theorem frVE_FX12_find_93 {h0 : ph_H} (x1 : Int32) (x4 : Int32) (h : ph_H) (e : EQ pVE h0 h) : EQ pVE h0 (FX12_find_93 x1 x4 h).2 := (frVE_FX12_find_98 _ _ _  _ e)
theorem frVE_FX12_find_90 {h0 : ph_H} (x1 : Int32) (x4 : Int32) (s0 : Int32) (h : ph_H) (e : EQ pVE h0 h) : EQ pVE h0 (FX12_find_90 x1 x4 s0 h).2 := (EQ2_if (frVE_FX12_find_98 _ _ _  _ e) (frVE_FX12_find_93 _ _  _ e))
theorem frVE_FX12_find_71 {h0 : ph_H} (x1 : Int32) (x4 : Int32) (s0 : Int32) (h : ph_H) (e : EQ pVE h0 h) : EQ pVE h0 (FX12_find_71 x1 x4 s0 h).2 := (EQ2_if (EQ2_if (frVE_FX12_find_93 _ _  _ e) (frVE_FX12_find_90 _ _ _  _ (frVE_FX12_tryLast _ _ _  _ e))) (frVE_FX12_find_93 _ _  _ e))
theorem frVE_FX12_find_60 {h0 : ph_H} (x1 : Int32) (s0 : Int32) (h : ph_H) (e : EQ pVE h0 h) : EQ pVE h0 (FX12_find_60 x1 s0 h).2 := (frVE_FX12_find_71 _ _ _  _ (frVE_FX12_isOver   _ e))
theorem frVE_FX12_find {h0 : ph_H} (a0 : Int32) (a1 : Int32) (h : ph_H) (e : EQ pVE h0 h) : EQ pVE h0 (FX12_find a0 a1 h).2 := (EQ2_if (EQ_s rfl e) (EQ2_if (EQ_s rfl e) (frVE_FX12_find_60 _ _  _ (frVE_FX12_tryRun   _ (EQ_s rfl (EQ_s rfl (EQ_s rfl (EQ_s rfl (EQ_s rfl (EQ_s rfl e))))))))))
theorem frVE_FX12_found_49 {h0 : ph_H} (x1 : Int32) (h : ph_H) (e : EQ pVE h0 h) : EQ pVE h0 (FX12_found_49 x1 h).2 := (EQ2_if e e)
theorem frVE_FX12_found_75 {h0 : ph_H} (x1 : Int32) (s0 : Int32) (h : ph_H) (e : EQ pVE h0 h) : EQ pVE h0 (FX12_found_75 x1 s0 h).2 := (EQ2_if (EQ2_if e e) e)
theorem frVE_FX12_found {h0 : ph_H} (a0 : Int32) (h : ph_H) (e : EQ pVE h0 h) : EQ pVE h0 (FX12_found a0 h).2 := (EQ2_if (EQ_s rfl e) (EQ2_if (EQ_s rfl e) (EQ2_if (EQ_s rfl e) (EQ2_if (frVE_FX12_found_49 _  _ (EQ_s rfl e)) (EQ2_if (frVE_FX12_found_49 _  _ (EQ_s rfl e)) (EQ2_if (frVE_FX12_found_75 _ _  _ (EQ_s rfl e)) (frVE_FX12_found_75 _ _  _ (EQ_s rfl e))))))))
theorem frVE_FX12_keep__246 {h0 : ph_H} (L174 : Int32 → Int32 → Int32 → ph_H → Int32 × ph_H) (x1 : Int32) (x2 : Int32) (x4 : Int32) (s0 : Int32) (s1 : Int32) (hL174 : ∀ (y0 : Int32) (y1 : Int32) (y2 : Int32) (h : ph_H), EQ pVE h0 h → EQ pVE h0 (L174 y0 y1 y2 h).2) (h : ph_H) (e : EQ pVE h0 h) : EQ pVE h0 (FX12_keep__246 L174 x1 x2 x4 s0 s1 h).2 := (hL174 _ _ _ _ (EQ_s rfl e))
theorem frVE_FX12_keep__174 {h0 : ph_H}  : ∀ (q : Nat) (y0 : Int32) (y1 : Int32) (y2 : Int32) (h : ph_H), EQ pVE h0 h → EQ pVE h0 (FX12_keep__174  q y0 y1 y2 h).2 := by
  intro q
  induction q with
  | zero =>
    intro y0 y1 y2 h e
    exact e
  | succ q ih =>
    intro y0 y1 y2 h e
    exact (EQ2_if e (EQ2_if (frVE_FX12_keep__246 _ _ _ _ _ _ ih _ e) (EQ2_if (frVE_FX12_keep__246 _ _ _ _ _ _ ih _ e) (frVE_FX12_keep__246 _ _ _ _ _ _ ih _ e))))
theorem frVE_FX12_keep__170 {h0 : ph_H} (x1 : Int32) (x2 : Int32) (s0 : Int32) (s1 : Int32) (h : ph_H) (e : EQ pVE h0 h) : EQ pVE h0 (FX12_keep__170 x1 x2 s0 s1 h).2 := (frVE_FX12_keep__174   _ _ _ _ _ (EQ_s rfl e))
theorem frVE_FX12_keep__63 {h0 : ph_H} (x1 : Int32) (x2 : Int32) (x3 : Int32) (h : ph_H) (e : EQ pVE h0 h) : EQ pVE h0 (FX12_keep__63 x1 x2 x3 h).2 := (EQ2_if (EQ_s rfl (EQ_s rfl (EQ_s rfl (EQ_s rfl (EQ_s rfl e))))) (EQ2_if (EQ_s rfl (EQ_s rfl e)) (EQ2_if (frVE_FX12_keep__170 _ _ _ _  _ (EQ_s rfl (EQ_s rfl e))) (EQ2_if (frVE_FX12_keep__170 _ _ _ _  _ (EQ_s rfl (EQ_s rfl e))) (frVE_FX12_keep__170 _ _ _ _  _ (EQ_s rfl (EQ_s rfl e)))))))
theorem frVE_FX12_keep__35 {h0 : ph_H} (x1 : Int32) (x2 : Int32) (x3 : Int32) (h : ph_H) (e : EQ pVE h0 h) : EQ pVE h0 (FX12_keep__35 x1 x2 x3 h).2 := (EQ2_if (EQ2_if e (frVE_FX12_keep__63 _ _ _  _ e)) (frVE_FX12_keep__63 _ _ _  _ e))
theorem frVE_FX12_keep_ {h0 : ph_H} (a0 : Int32) (a1 : Int32) (a2 : Int32) (h : ph_H) (e : EQ pVE h0 h) : EQ pVE h0 (FX12_keep_ a0 a1 a2 h).2 := (EQ2_if (EQ_s rfl e) (EQ2_if (EQ_s rfl e) (EQ2_if (frVE_FX12_keep__35 _ _ _  _ (EQ_s rfl e)) (EQ2_if (EQ_s rfl e) (frVE_FX12_keep__35 _ _ _  _ (EQ_s rfl e))))))
theorem frVE_FX12_make_58 {h0 : ph_H}  : ∀ (q : Nat) (y0 : Int32) (y1 : Int32) (y2 : Int32) (h : ph_H), EQ pVE h0 h → EQ pVE h0 (FX12_make_58  q y0 y1 y2 h).2 := by
  intro q
  induction q with
  | zero =>
    intro y0 y1 y2 h e
    exact e
  | succ q ih =>
    intro y0 y1 y2 h e
    exact (EQ2_if e (ih _ _ _ _ (EQ_s rfl e)))
theorem frVE_FX12_make {h0 : ph_H} (a0 : Int32) (a1 : Int32) (a2 : Int32) (h : ph_H) (e : EQ pVE h0 h) : EQ pVE h0 (FX12_make a0 a1 a2 h).2 := (EQ2_if (EQ_s rfl e) (EQ2_if (EQ_s rfl e) (EQ2_if (EQ2_if (frVE_FX12_make_58   _ _ _ _ _ (EQ_s rfl (EQ_s rfl (EQ_s rfl e)))) (EQ_s rfl e)) (EQ_s rfl e))))
theorem frVE_FX12_element_62 {h0 : ph_H} (x1 : Int32) (x2 : Int32) (x3 : Int32) (s0 : Int32) (h : ph_H) (e : EQ pVE h0 h) : EQ pVE h0 (FX12_element_62 x1 x2 x3 s0 h).2 := (EQ2_if (EQ_s rfl e) (EQ_s rfl e))
theorem frVE_FX12_element_40 {h0 : ph_H} (x1 : Int32) (x2 : Int32) (s0 : Int32) (h : ph_H) (e : EQ pVE h0 h) : EQ pVE h0 (FX12_element_40 x1 x2 s0 h).2 := (EQ2_if (frVE_FX12_element_62 _ _ _ _  _ e) (EQ2_if (frVE_FX12_element_62 _ _ _ _  _ e) (frVE_FX12_element_62 _ _ _ _  _ e)))
theorem frVE_FX12_element_39 {h0 : ph_H} (x1 : Int32) (x2 : Int32) (h : ph_H) (e : EQ pVE h0 h) : EQ pVE h0 (FX12_element_39 x1 x2 h).2 := (frVE_FX12_element_40 _ _ _  _ e)
theorem frVE_FX12_element {h0 : ph_H} (a0 : Int32) (a1 : Int32) (h : ph_H) (e : EQ pVE h0 h) : EQ pVE h0 (FX12_element a0 a1 h).2 := (EQ2_if (frVE_FX12_element_39 _ _  _ e) (EQ2_if (frVE_FX12_element_39 _ _  _ e) (EQ2_if (frVE_FX12_element_39 _ _  _ e) (frVE_FX12_element_40 _ _ _  _ e))))
theorem frVE_FX12_copy_136 {h0 : ph_H}  : ∀ (q : Nat) (y0 : Int32) (y1 : Int32) (y2 : Int32) (y3 : Int32) (h : ph_H), EQ pVE h0 h → EQ pVE h0 (FX12_copy_136  q y0 y1 y2 y3 h).2 := by
  intro q
  induction q with
  | zero =>
    intro y0 y1 y2 y3 h e
    exact e
  | succ q ih =>
    intro y0 y1 y2 y3 h e
    exact (EQ2_if e (ih _ _ _ _ _ (EQ_s rfl e)))
theorem frVE_FX12_copy_99 {h0 : ph_H}  : ∀ (q : Nat) (y0 : Int32) (y1 : Int32) (y2 : Int32) (y3 : Int32) (y4 : Int32) (y5 : Int32) (h : ph_H), EQ pVE h0 h → EQ pVE h0 (FX12_copy_99  q y0 y1 y2 y3 y4 y5 h).2 := by
  intro q
  induction q with
  | zero =>
    intro y0 y1 y2 y3 y4 y5 h e
    exact e
  | succ q ih =>
    intro y0 y1 y2 y3 y4 y5 h e
    exact (EQ2_if (frVE_FX12_copy_136   _ _ _ _ _ _ e) (ih _ _ _ _ _ _ _ (EQ_s rfl e)))
theorem frVE_FX12_copy {h0 : ph_H} (a0 : Int32) (a1 : Int32) (a2 : Int32) (a3 : Int32) (a4 : Int32) (h : ph_H) (e : EQ pVE h0 h) : EQ pVE h0 (FX12_copy a0 a1 a2 a3 a4 h).2 := (EQ2_if (EQ_s rfl e) (EQ2_if (EQ_s rfl e) (EQ2_if (EQ_s rfl e) (EQ2_if (EQ_s rfl e) (EQ2_if (EQ_s rfl e) (EQ2_if (EQ2_if (EQ_s rfl e) (EQ2_if (EQ_s rfl e) (frVE_FX12_copy_99   _ _ _ _ _ _ _ _ (EQ_s rfl e)))) (EQ_s rfl e)))))))
theorem frVE_FX12_weight {h0 : ph_H} (a0 : Int32) (h : ph_H) (e : EQ pVE h0 h) : EQ pVE h0 (FX12_weight a0 h).2 := (EQ2_if (EQ2_if (EQ_s rfl e) (EQ2_if (EQ_s rfl e) (EQ_s rfl e))) (EQ_s rfl e))
theorem frVE_FX12_toss {h0 : ph_H} (a0 : Int32) (h : ph_H) (e : EQ pVE h0 h) : EQ pVE h0 (FX12_toss a0 h).2 := (EQ2_if (EQ2_if (EQ_s rfl e) (EQ_s rfl e)) (EQ_s rfl e))
def p64 (k i : Nat) : Bool := match k with
  | 0 => i == 64
  | _ => false
theorem fr64_FX12_goTo_19 {h0 : ph_H} (s0 : Int32) (h : ph_H) (e : EQ p64 h0 h) : EQ p64 h0 (FX12_goTo_19 s0 h) := (EQ_s rfl e)
theorem fr64_FX12_goTo {h0 : ph_H} (a0 : Int32) (a1 : Int32) (h : ph_H) (e : EQ p64 h0 h) : EQ p64 h0 (FX12_goTo a0 a1 h) := (EQ_if (fr64_FX12_goTo_19 _  _ e) (EQ_if (EQ_s rfl e) (fr64_FX12_goTo_19 _  _ e)))
theorem fr64_FX12_set {h0 : ph_H} (a0 : Int32) (a1 : Int32) (a2 : Int32) (h : ph_H) (e : EQ p64 h0 h) : EQ p64 h0 (FX12_set a0 a1 a2 h) := (EQ_s rfl (EQ_s rfl e))
theorem fr64_FX12_newThing_29 {h0 : ph_H}  : ∀ (q : Nat) (y0 : Int32) (y1 : Int32) (h : ph_H), EQ p64 h0 h → EQ p64 h0 (FX12_newThing_29  q y0 y1 h).2 := by
  intro q
  induction q with
  | zero =>
    intro y0 y1 h e
    exact e
  | succ q ih =>
    intro y0 y1 h e
    exact (EQ2_if (EQ_s rfl e) (ih _ _ _ (EQ_s rfl e)))
theorem fr64_FX12_newThing {h0 : ph_H} (a0 : Int32) (a1 : Int32) (h : ph_H) (e : EQ p64 h0 h) : EQ p64 h0 (FX12_newThing a0 a1 h).2 := (fr64_FX12_newThing_29   _ _ _ _ (EQ_s rfl (EQ_s rfl (EQ_s rfl e))))
theorem fr64_FX12_work_88 {h0 : ph_H}  (h : ph_H) (e : EQ p64 h0 h) : EQ p64 h0 (FX12_work_88 h) := e
theorem fr64_FX12_work_111 {h0 : ph_H}  (h : ph_H) (e : EQ p64 h0 h) : EQ p64 h0 (FX12_work_111 h) := e
theorem fr64_FX12_work_134 {h0 : ph_H}  (h : ph_H) (e : EQ p64 h0 h) : EQ p64 h0 (FX12_work_134 h) := e
theorem fr64_FX12_work_155 {h0 : ph_H}  (h : ph_H) (e : EQ p64 h0 h) : EQ p64 h0 (FX12_work_155 h) := e
theorem fr64_FX12_work_152 {h0 : ph_H} (s0 : Int32) (s1 : Int32) (s2 : Int32) (h : ph_H) (e : EQ p64 h0 h) : EQ p64 h0 (FX12_work_152 s0 s1 s2 h) := (fr64_FX12_work_155   _ (fr64_FX12_set _ _ _  _ e))
theorem fr64_FX12_work_212 {h0 : ph_H}  (h : ph_H) (e : EQ p64 h0 h) : EQ p64 h0 (FX12_work_212 h) := e
theorem fr64_FX12_work_435 {h0 : ph_H} (L391 : Int32 → Int32 → ph_H → ph_H) (x3 : Int32) (x6 : Int32) (hL391 : ∀ (y0 : Int32) (y1 : Int32) (h : ph_H), EQ p64 h0 h → EQ p64 h0 (L391 y0 y1 h)) (h : ph_H) (e : EQ p64 h0 h) : EQ p64 h0 (FX12_work_435 L391 x3 x6 h) := (hL391 _ _ _ e)
theorem fr64_FX12_work_391 {h0 : ph_H}  : ∀ (q : Nat) (y0 : Int32) (y1 : Int32) (h : ph_H), EQ p64 h0 h → EQ p64 h0 (FX12_work_391  q y0 y1 h) := by
  intro q
  induction q with
  | zero =>
    intro y0 y1 h e
    exact e
  | succ q ih =>
    intro y0 y1 h e
    exact (EQ_if e (EQ_if (fr64_FX12_work_435 _ _ _ ih _ (EQ_s rfl (EQ_s rfl e))) (fr64_FX12_work_435 _ _ _ ih _ e)))
theorem fr64_FX12_work {h0 : ph_H} (a0 : Int32) (a1 : Int32) (a2 : Int32) (a3 : Int32) (a4 : Int32) (h : ph_H) (e : EQ p64 h0 h) : EQ p64 h0 (FX12_work a0 a1 a2 a3 a4 h) := (EQ_if (fr64_FX12_work_88   _ (fr64_FX12_set _ _ _  _ e)) (EQ_if (fr64_FX12_work_111   _ (fr64_FX12_set _ _ _  _ e)) (EQ_if (fr64_FX12_work_134   _ (fr64_FX12_set _ _ _  _ e)) (EQ_if e (EQ_if e (EQ_if (fr64_FX12_work_152 _ _ _  _ (fr64_FX12_newThing _ _  _ e)) (EQ_if (fr64_FX12_work_212   _ (fr64_FX12_set _ _ _  _ (EQ_s rfl e))) (EQ_if (EQ_s rfl (EQ_s rfl e)) (EQ_if e (EQ_if (EQ_s rfl (EQ_s rfl (EQ_s rfl e))) (EQ_if (EQ_s rfl (EQ_s rfl (EQ_s rfl e))) (EQ_if (EQ_s rfl (EQ_s rfl (EQ_s rfl (EQ_s rfl e)))) (EQ_if (fr64_FX12_work_391   _ _ _ _ (EQ_s rfl (EQ_s rfl e))) e)))))))))))))
theorem fr64_FX12_workPlain_116 {h0 : ph_H}  (h : ph_H) (e : EQ p64 h0 h) : EQ p64 h0 (FX12_workPlain_116 h) := e
theorem fr64_FX12_workPlain_153 {h0 : ph_H}  (h : ph_H) (e : EQ p64 h0 h) : EQ p64 h0 (FX12_workPlain_153 h) := e
theorem fr64_FX12_workPlain_191 {h0 : ph_H}  (h : ph_H) (e : EQ p64 h0 h) : EQ p64 h0 (FX12_workPlain_191 h) := e
theorem fr64_FX12_workPlain_222 {h0 : ph_H}  (h : ph_H) (e : EQ p64 h0 h) : EQ p64 h0 (FX12_workPlain_222 h) := e
theorem fr64_FX12_workPlain_219 {h0 : ph_H} (s0 : Int32) (s1 : Int32) (s2 : Int32) (h : ph_H) (e : EQ p64 h0 h) : EQ p64 h0 (FX12_workPlain_219 s0 s1 s2 h) := (fr64_FX12_workPlain_222   _ (fr64_FX12_set _ _ _  _ e))
theorem fr64_FX12_workPlain_206 {h0 : ph_H} (x3 : Int32) (s0 : Int32) (h : ph_H) (e : EQ p64 h0 h) : EQ p64 h0 (FX12_workPlain_206 x3 s0 h) := (fr64_FX12_workPlain_219 _ _ _  _ (fr64_FX12_newThing _ _  _ e))
theorem fr64_FX12_workPlain_259 {h0 : ph_H}  (h : ph_H) (e : EQ p64 h0 h) : EQ p64 h0 (FX12_workPlain_259 h) := (EQ_s rfl e)
theorem fr64_FX12_workPlain_256 {h0 : ph_H} (s0 : Int32) (s1 : Int32) (s2 : Int32) (h : ph_H) (e : EQ p64 h0 h) : EQ p64 h0 (FX12_workPlain_256 s0 s1 s2 h) := (fr64_FX12_workPlain_259   _ (fr64_FX12_set _ _ _  _ e))
theorem fr64_FX12_workPlain {h0 : ph_H} (a0 : Int32) (a1 : Int32) (a2 : Int32) (a3 : Int32) (h : ph_H) (e : EQ p64 h0 h) : EQ p64 h0 (FX12_workPlain a0 a1 a2 a3 h) := (EQ_if (fr64_FX12_workPlain_116   _ (fr64_FX12_set _ _ _  _ e)) (EQ_if (fr64_FX12_workPlain_153   _ (fr64_FX12_set _ _ _  _ (EQ_s rfl e))) (EQ_if (fr64_FX12_workPlain_191   _ (fr64_FX12_set _ _ _  _ (EQ_s rfl e))) (EQ_if e (EQ_if e (EQ_if e (EQ_if e (EQ_if e (EQ_if e (EQ_if e (EQ_if e (EQ_if (EQ_if (fr64_FX12_workPlain_206 _ _  _ e) (fr64_FX12_workPlain_206 _ _  _ e)) (EQ_if e (EQ_if e (EQ_if e (EQ_if e (EQ_if (EQ_if (fr64_FX12_workPlain_256 _ _ _  _ e) (fr64_FX12_workPlain_256 _ _ _  _ e)) (EQ_if (EQ_s rfl (EQ_s rfl (EQ_s rfl e))) e))))))))))))))))))
theorem fr64_FX12_instruct_251 {h0 : ph_H} (s0 : Int32) (s1 : Int32) (h : ph_H) (e : EQ p64 h0 h) : EQ p64 h0 (FX12_instruct_251 s0 s1 h) := (fr64_FX12_goTo _ _  _ e)
theorem fr64_FX12_instruct_204 {h0 : ph_H} (x1 : Int32) (x2 : Int32) (x6 : Int32) (x7 : Int32) (h : ph_H) (e : EQ p64 h0 h) : EQ p64 h0 (FX12_instruct_204 x1 x2 x6 x7 h) := (EQ_if e (EQ_if (fr64_FX12_instruct_251 _ _  _ e) (EQ_if (fr64_FX12_instruct_251 _ _  _ e) (fr64_FX12_instruct_251 _ _  _ e))))
theorem fr64_FX12_instruct_195 {h0 : ph_H} (x1 : Int32) (x2 : Int32) (x3 : Int32) (x4 : Int32) (x6 : Int32) (x7 : Int32) (h : ph_H) (e : EQ p64 h0 h) : EQ p64 h0 (FX12_instruct_195 x1 x2 x3 x4 x6 x7 h) := (fr64_FX12_instruct_204 _ _ _ _  _ (fr64_FX12_workPlain _ _ _ _  _ e))
theorem fr64_FX12_instruct_177 {h0 : ph_H} (x1 : Int32) (x2 : Int32) (x3 : Int32) (x4 : Int32) (x5 : Int32) (x6 : Int32) (s0 : Int32) (h : ph_H) (e : EQ p64 h0 h) : EQ p64 h0 (FX12_instruct_177 x1 x2 x3 x4 x5 x6 s0 h) := (fr64_FX12_instruct_195 _ _ _ _ _ _  _ (fr64_FX12_work _ _ _ _ _  _ e))
theorem fr64_FX12_instruct_149 {h0 : ph_H} (x1 : Int32) (x2 : Int32) (x3 : Int32) (x4 : Int32) (x5 : Int32) (s0 : Int32) (h : ph_H) (e : EQ p64 h0 h) : EQ p64 h0 (FX12_instruct_149 x1 x2 x3 x4 x5 s0 h) := (EQ_if (fr64_FX12_instruct_177 _ _ _ _ _ _ _  _ e) (fr64_FX12_instruct_177 _ _ _ _ _ _ _  _ e))
theorem fr64_FX12_instruct_144 {h0 : ph_H} (x1 : Int32) (x2 : Int32) (x3 : Int32) (x4 : Int32) (x5 : Int32) (h : ph_H) (e : EQ p64 h0 h) : EQ p64 h0 (FX12_instruct_144 x1 x2 x3 x4 x5 h) := (fr64_FX12_instruct_149 _ _ _ _ _ _  _ e)
theorem fr64_FX12_instruct_148 {h0 : ph_H} (x1 : Int32) (x2 : Int32) (x3 : Int32) (x4 : Int32) (x5 : Int32) (h : ph_H) (e : EQ p64 h0 h) : EQ p64 h0 (FX12_instruct_148 x1 x2 x3 x4 x5 h) := (fr64_FX12_instruct_149 _ _ _ _ _ _  _ e)
theorem fr64_FX12_instruct_102 {h0 : ph_H} (x1 : Int32) (x2 : Int32) (x3 : Int32) (x4 : Int32) (x5 : Int32) (s0 : Int32) (h : ph_H) (e : EQ p64 h0 h) : EQ p64 h0 (FX12_instruct_102 x1 x2 x3 x4 x5 s0 h) := (EQ_if (EQ_if (fr64_FX12_instruct_144 _ _ _ _ _  _ (EQ_s rfl e)) (EQ_if (EQ_if (fr64_FX12_instruct_144 _ _ _ _ _  _ (EQ_s rfl e)) (fr64_FX12_instruct_148 _ _ _ _ _  _ (EQ_s rfl e))) (fr64_FX12_instruct_148 _ _ _ _ _  _ (EQ_s rfl e)))) (EQ_s rfl e))
theorem fr64_FX12_instruct_98 {h0 : ph_H} (x1 : Int32) (x2 : Int32) (x3 : Int32) (x4 : Int32) (x5 : Int32) (h : ph_H) (e : EQ p64 h0 h) : EQ p64 h0 (FX12_instruct_98 x1 x2 x3 x4 x5 h) := (fr64_FX12_instruct_102 _ _ _ _ _ _  _ e)
theorem fr64_FX12_instruct {h0 : ph_H} (a0 : Int32) (a1 : Int32) (h : ph_H) (e : EQ p64 h0 h) : EQ p64 h0 (FX12_instruct a0 a1 h) := (EQ_if (EQ_if (fr64_FX12_instruct_98 _ _ _ _ _  _ (EQ_s rfl e)) (fr64_FX12_instruct_102 _ _ _ _ _ _  _ (EQ_s rfl e))) (fr64_FX12_instruct_98 _ _ _ _ _  _ (EQ_s rfl e)))
theorem fr64_FX12_step_154 {h0 : ph_H} (x1 : Int32) (h : ph_H) (e : EQ p64 h0 h) : EQ p64 h0 (FX12_step_154 x1 h) := (EQ_s rfl (EQ_s rfl e))
theorem fr64_FX12_step_110 {h0 : ph_H} (x1 : Int32) (h : ph_H) (e : EQ p64 h0 h) : EQ p64 h0 (FX12_step_110 x1 h) := (fr64_FX12_step_154 _  _ e)
theorem fr64_FX12_step_148 {h0 : ph_H} (x1 : Int32) (x2 : Int32) (h : ph_H) (e : EQ p64 h0 h) : EQ p64 h0 (FX12_step_148 x1 x2 h) := (fr64_FX12_step_154 _  _ (fr64_FX12_instruct _ _  _ e))
theorem fr64_FX12_step {h0 : ph_H} (a0 : Int32) (h : ph_H) (e : EQ p64 h0 h) : EQ p64 h0 (FX12_step a0 h) := (EQ_if (EQ_if (EQ_if (fr64_FX12_step_148 _ _  _ (EQ_s rfl (EQ_s rfl (EQ_s rfl (EQ_s rfl (EQ_s rfl (EQ_s rfl e))))))) (EQ_if (EQ_s rfl (EQ_s rfl (EQ_s rfl (EQ_s rfl (EQ_s rfl (EQ_s rfl (EQ_s rfl e))))))) (fr64_FX12_step_148 _ _  _ (EQ_s rfl (EQ_s rfl (EQ_s rfl (EQ_s rfl (EQ_s rfl (EQ_s rfl e))))))))) (fr64_FX12_step_148 _ _  _ (EQ_s rfl (EQ_s rfl (EQ_s rfl (EQ_s rfl (EQ_s rfl (EQ_s rfl e)))))))) (fr64_FX12_step_110 _  _ (fr64_FX12_goTo _ _  _ (EQ_s rfl (EQ_s rfl (EQ_s rfl (EQ_s rfl (EQ_s rfl (EQ_s rfl (EQ_s rfl (EQ_s rfl (EQ_s rfl (EQ_s rfl e)))))))))))))
theorem fr64_FX12_keep_171 {h0 : ph_H}  : ∀ (q : Nat) (y0 : Int32) (y1 : Int32) (h : ph_H), EQ p64 h0 h → EQ p64 h0 (FX12_keep_171  q y0 y1 h) := by
  intro q
  induction q with
  | zero =>
    intro y0 y1 h e
    exact e
  | succ q ih =>
    intro y0 y1 h e
    exact (EQ_if e (ih _ _ _ (EQ_s rfl e)))
theorem fr64_FX12_keep_104 {h0 : ph_H}  : ∀ (q : Nat) (y0 : Int32) (y1 : Int32) (h : ph_H), EQ p64 h0 h → EQ p64 h0 (FX12_keep_104  q y0 y1 h) := by
  intro q
  induction q with
  | zero =>
    intro y0 y1 h e
    exact e
  | succ q ih =>
    intro y0 y1 h e
    exact (EQ_if (fr64_FX12_keep_171   _ _ _ _ e) (ih _ _ _ (EQ_s rfl (EQ_s rfl (EQ_s rfl e)))))
theorem fr64_FX12_keep_50 {h0 : ph_H}  : ∀ (q : Nat) (y0 : Int32) (y1 : Int32) (h : ph_H), EQ p64 h0 h → EQ p64 h0 (FX12_keep_50  q y0 y1 h) := by
  intro q
  induction q with
  | zero =>
    intro y0 y1 h e
    exact e
  | succ q ih =>
    intro y0 y1 h e
    exact (EQ_if (fr64_FX12_keep_104   _ _ _ _ (EQ_s rfl e)) (ih _ _ _ (EQ_s rfl (EQ_s rfl e))))
theorem fr64_FX12_keep_2 {h0 : ph_H}  : ∀ (q : Nat) (y0 : Int32) (y1 : Int32) (h : ph_H), EQ p64 h0 h → EQ p64 h0 (FX12_keep_2  q y0 y1 h) := by
  intro q
  induction q with
  | zero =>
    intro y0 y1 h e
    exact e
  | succ q ih =>
    intro y0 y1 h e
    exact (EQ_if (fr64_FX12_keep_50   _ _ _ _ e) (ih _ _ _ (EQ_s rfl (EQ_s rfl e))))
theorem fr64_FX12_keep {h0 : ph_H} (a0 : Int32) (h : ph_H) (e : EQ p64 h0 h) : EQ p64 h0 (FX12_keep a0 h) := (fr64_FX12_keep_2   _ _ _ _ e)
theorem fr64_FX12_stepKept_182 {h0 : ph_H} (s0 : Int32) (s1 : Int32) (h : ph_H) (e : EQ p64 h0 h) : EQ p64 h0 (FX12_stepKept_182 s0 s1 h) := (fr64_FX12_keep _  _ (EQ_s rfl (EQ_s rfl e)))
theorem fr64_FX12_stepKept_158 {h0 : ph_H} (s0 : Int32) (s1 : Int32) (h : ph_H) (e : EQ p64 h0 h) : EQ p64 h0 (FX12_stepKept_158 s0 s1 h) := (EQ_if (fr64_FX12_stepKept_182 _ _  _ (EQ_s rfl e)) (fr64_FX12_stepKept_182 _ _  _ (EQ_s rfl e)))
theorem fr64_FX12_stepKept_133 {h0 : ph_H} (s0 : Int32) (s1 : Int32) (h : ph_H) (e : EQ p64 h0 h) : EQ p64 h0 (FX12_stepKept_133 s0 s1 h) := (EQ_if (fr64_FX12_stepKept_158 _ _  _ (EQ_s rfl e)) (fr64_FX12_stepKept_158 _ _  _ (EQ_s rfl e)))
theorem fr64_FX12_stepKept_73 {h0 : ph_H} (x1 : Int32) (h : ph_H) (e : EQ p64 h0 h) : EQ p64 h0 (FX12_stepKept_73 x1 h) := (EQ_if (fr64_FX12_stepKept_133 _ _  _ (EQ_s rfl (EQ_s rfl (EQ_s rfl e)))) (fr64_FX12_stepKept_133 _ _  _ (EQ_s rfl (EQ_s rfl (EQ_s rfl e)))))
theorem fr64_FX12_stepKept_53 {h0 : ph_H} (x1 : Int32) (x3 : Int32) (h : ph_H) (e : EQ p64 h0 h) : EQ p64 h0 (FX12_stepKept_53 x1 x3 h) := (EQ_if (fr64_FX12_stepKept_73 _  _ e) (fr64_FX12_stepKept_73 _  _ (EQ_s rfl e)))
theorem fr64_FX12_stepKept_48 {h0 : ph_H} (x1 : Int32) (x3 : Int32) (h : ph_H) (e : EQ p64 h0 h) : EQ p64 h0 (FX12_stepKept_48 x1 x3 h) := (fr64_FX12_stepKept_53 _ _  _ (fr64_FX12_step _  _ e))
theorem fr64_FX12_stepKept {h0 : ph_H} (a0 : Int32) (h : ph_H) (e : EQ p64 h0 h) : EQ p64 h0 (FX12_stepKept a0 h) := (EQ_if (fr64_FX12_stepKept_48 _ _  _ e) (fr64_FX12_stepKept_48 _ _  _ (EQ_s rfl (EQ_s rfl (EQ_s rfl e)))))
theorem fr64_FX12_run_91 {h0 : ph_H} (L31 : Int32 → ph_H → Int32 × ph_H) (L41 : Int32 → Int32 → ph_H → Int32 × ph_H) (x1 : Int32) (x2 : Int32) (hL31 : ∀ (y0 : Int32) (h : ph_H), EQ p64 h0 h → EQ p64 h0 (L31 y0 h).2) (hL41 : ∀ (y0 : Int32) (y1 : Int32) (h : ph_H), EQ p64 h0 h → EQ p64 h0 (L41 y0 y1 h).2) (h : ph_H) (e : EQ p64 h0 h) : EQ p64 h0 (FX12_run_91 L31 L41 x1 x2 h).2 := (hL41 _ _ _ e)
theorem fr64_FX12_run_97 {h0 : ph_H} (L31 : Int32 → ph_H → Int32 × ph_H) (x1 : Int32) (hL31 : ∀ (y0 : Int32) (h : ph_H), EQ p64 h0 h → EQ p64 h0 (L31 y0 h).2) (h : ph_H) (e : EQ p64 h0 h) : EQ p64 h0 (FX12_run_97 L31 x1 h).2 := (hL31 _ _ e)
theorem fr64_FX12_run_41 {h0 : ph_H} (L31 : Int32 → ph_H → Int32 × ph_H) (hL31 : ∀ (y0 : Int32) (h : ph_H), EQ p64 h0 h → EQ p64 h0 (L31 y0 h).2) : ∀ (q : Nat) (y0 : Int32) (y1 : Int32) (h : ph_H), EQ p64 h0 h → EQ p64 h0 (FX12_run_41 L31 q y0 y1 h).2 := by
  intro q
  induction q with
  | zero =>
    intro y0 y1 h e
    exact e
  | succ q ih =>
    intro y0 y1 h e
    exact (EQ2_if (fr64_FX12_run_97 _ _ hL31 _ e) (EQ2_if (EQ2_if (fr64_FX12_run_97 _ _ hL31 _ e) (EQ2_if (fr64_FX12_run_97 _ _ hL31 _ e) (fr64_FX12_run_91 _ _ _ _ hL31 ih _ (fr64_FX12_stepKept _  _ e)))) (fr64_FX12_run_97 _ _ hL31 _ e)))
theorem fr64_FX12_run_138 {h0 : ph_H} (L112 : Int32 → ph_H → Int32 × ph_H) (hL112 : ∀ (y0 : Int32) (h : ph_H), EQ p64 h0 h → EQ p64 h0 (L112 y0 h).2) (h : ph_H) (e : EQ p64 h0 h) : EQ p64 h0 (FX12_run_138 L112 h).2 := (hL112 _ _ e)
theorem fr64_FX12_run_195 {h0 : ph_H} (s0 : Int32) (h : ph_H) (e : EQ p64 h0 h) : EQ p64 h0 (FX12_run_195 s0 h).2 := (EQ_s rfl (EQ_s rfl (EQ_s rfl e)))
theorem fr64_FX12_run_150 {h0 : ph_H}  (h : ph_H) (e : EQ p64 h0 h) : EQ p64 h0 (FX12_run_150 h).2 := (EQ2_if (fr64_FX12_run_195 _  _ (EQ_s rfl (EQ_s rfl (EQ_s rfl (EQ_s rfl e))))) (fr64_FX12_run_195 _  _ (EQ_s rfl (EQ_s rfl (EQ_s rfl (EQ_s rfl e))))))
theorem fr64_FX12_run_112 {h0 : ph_H}  : ∀ (q : Nat) (y0 : Int32) (h : ph_H), EQ p64 h0 h → EQ p64 h0 (FX12_run_112  q y0 h).2 := by
  intro q
  induction q with
  | zero =>
    intro y0 h e
    exact e
  | succ q ih =>
    intro y0 h e
    exact (EQ2_if (fr64_FX12_run_150   _ e) (EQ2_if (EQ2_if (fr64_FX12_run_150   _ e) (fr64_FX12_run_138 _ ih _ (fr64_FX12_stepKept _  _ e))) (fr64_FX12_run_150   _ e)))
theorem fr64_FX12_run_31 {h0 : ph_H}  : ∀ (q : Nat) (y0 : Int32) (h : ph_H), EQ p64 h0 h → EQ p64 h0 (FX12_run_31  q y0 h).2 := by
  intro q
  induction q with
  | zero =>
    intro y0 h e
    exact e
  | succ q ih =>
    intro y0 h e
    exact (EQ2_if (fr64_FX12_run_112   _ _ _ e) (fr64_FX12_run_41 _ ih _ _ _ _ e))
theorem fr64_FX12_run_29 {h0 : ph_H}  (h : ph_H) (e : EQ p64 h0 h) : EQ p64 h0 (FX12_run_29 h).2 := (fr64_FX12_run_31   _ _ _ e)
def pVA (k i : Nat) : Bool := match k with
  | 0 => i == 36 || i == 38
  | 29 => true
  | 31 => true
  | 32 => true
  | 33 => true
  | 34 => true
  | 35 => true
  | _ => false
theorem frVA_FX12_findAhead_147 {h0 : ph_H} (L15 : Int32 → ph_H → ph_H) (L53 : Int32 → Int32 → ph_H → ph_H) (L96 : Int32 → Int32 → Int32 → ph_H → ph_H) (x1 : Int32) (x2 : Int32) (x3 : Int32) (s0 : Int32) (s1 : Int32) (hL15 : ∀ (y0 : Int32) (h : ph_H), EQ pVA h0 h → EQ pVA h0 (L15 y0 h)) (hL53 : ∀ (y0 : Int32) (y1 : Int32) (h : ph_H), EQ pVA h0 h → EQ pVA h0 (L53 y0 y1 h)) (hL96 : ∀ (y0 : Int32) (y1 : Int32) (y2 : Int32) (h : ph_H), EQ pVA h0 h → EQ pVA h0 (L96 y0 y1 y2 h)) (h : ph_H) (e : EQ pVA h0 h) : EQ pVA h0 (FX12_findAhead_147 L15 L53 L96 x1 x2 x3 s0 s1 h) := (hL96 _ _ _ _ (EQ_s rfl e))
theorem frVA_FX12_findAhead_142 {h0 : ph_H} (L15 : Int32 → ph_H → ph_H) (L53 : Int32 → Int32 → ph_H → ph_H) (L96 : Int32 → Int32 → Int32 → ph_H → ph_H) (x1 : Int32) (x2 : Int32) (x3 : Int32) (s0 : Int32) (hL15 : ∀ (y0 : Int32) (h : ph_H), EQ pVA h0 h → EQ pVA h0 (L15 y0 h)) (hL53 : ∀ (y0 : Int32) (y1 : Int32) (h : ph_H), EQ pVA h0 h → EQ pVA h0 (L53 y0 y1 h)) (hL96 : ∀ (y0 : Int32) (y1 : Int32) (y2 : Int32) (h : ph_H), EQ pVA h0 h → EQ pVA h0 (L96 y0 y1 y2 h)) (h : ph_H) (e : EQ pVA h0 h) : EQ pVA h0 (FX12_findAhead_142 L15 L53 L96 x1 x2 x3 s0 h) := (frVA_FX12_findAhead_147 _ _ _ _ _ _ _ _ hL15 hL53 hL96 _ e)
theorem frVA_FX12_findAhead_154 {h0 : ph_H} (L15 : Int32 → ph_H → ph_H) (L53 : Int32 → Int32 → ph_H → ph_H) (x1 : Int32) (x2 : Int32) (hL15 : ∀ (y0 : Int32) (h : ph_H), EQ pVA h0 h → EQ pVA h0 (L15 y0 h)) (hL53 : ∀ (y0 : Int32) (y1 : Int32) (h : ph_H), EQ pVA h0 h → EQ pVA h0 (L53 y0 y1 h)) (h : ph_H) (e : EQ pVA h0 h) : EQ pVA h0 (FX12_findAhead_154 L15 L53 x1 x2 h) := (hL53 _ _ _ e)
theorem frVA_FX12_findAhead_96 {h0 : ph_H} (L15 : Int32 → ph_H → ph_H) (L53 : Int32 → Int32 → ph_H → ph_H) (hL15 : ∀ (y0 : Int32) (h : ph_H), EQ pVA h0 h → EQ pVA h0 (L15 y0 h)) (hL53 : ∀ (y0 : Int32) (y1 : Int32) (h : ph_H), EQ pVA h0 h → EQ pVA h0 (L53 y0 y1 h)) : ∀ (q : Nat) (y0 : Int32) (y1 : Int32) (y2 : Int32) (h : ph_H), EQ pVA h0 h → EQ pVA h0 (FX12_findAhead_96 L15 L53 q y0 y1 y2 h) := by
  intro q
  induction q with
  | zero =>
    intro y0 y1 y2 h e
    exact e
  | succ q ih =>
    intro y0 y1 y2 h e
    exact (EQ_if (frVA_FX12_findAhead_154 _ _ _ _ hL15 hL53 _ e) (EQ_if (EQ_if (frVA_FX12_findAhead_147 _ _ _ _ _ _ _ _ hL15 hL53 ih _ e) (frVA_FX12_findAhead_142 _ _ _ _ _ _ _ hL15 hL53 ih _ e)) (frVA_FX12_findAhead_142 _ _ _ _ _ _ _ hL15 hL53 ih _ e)))
theorem frVA_FX12_findAhead_53 {h0 : ph_H} (L15 : Int32 → ph_H → ph_H) (hL15 : ∀ (y0 : Int32) (h : ph_H), EQ pVA h0 h → EQ pVA h0 (L15 y0 h)) : ∀ (q : Nat) (y0 : Int32) (y1 : Int32) (h : ph_H), EQ pVA h0 h → EQ pVA h0 (FX12_findAhead_53 L15 q y0 y1 h) := by
  intro q
  induction q with
  | zero =>
    intro y0 y1 h e
    exact e
  | succ q ih =>
    intro y0 y1 h e
    exact (EQ_if (hL15 _ _ e) (EQ_if (EQ_if (frVA_FX12_findAhead_154 _ _ _ _ hL15 ih _ e) (frVA_FX12_findAhead_96 _ _ hL15 ih _ _ _ _ _ (EQ_s rfl e))) (frVA_FX12_findAhead_154 _ _ _ _ hL15 ih _ e)))
theorem frVA_FX12_findAhead_25 {h0 : ph_H} (L15 : Int32 → ph_H → ph_H) (hL15 : ∀ (y0 : Int32) (h : ph_H), EQ pVA h0 h → EQ pVA h0 (L15 y0 h)) : ∀ (q : Nat) (y0 : Int32) (y1 : Int32) (h : ph_H), EQ pVA h0 h → EQ pVA h0 (FX12_findAhead_25 L15 q y0 y1 h) := by
  intro q
  induction q with
  | zero =>
    intro y0 y1 h e
    exact e
  | succ q ih =>
    intro y0 y1 h e
    exact (EQ_if (frVA_FX12_findAhead_53 _ hL15 _ _ _ _ e) (ih _ _ _ (EQ_s rfl e)))
theorem frVA_FX12_findAhead_15 {h0 : ph_H}  : ∀ (q : Nat) (y0 : Int32) (h : ph_H), EQ pVA h0 h → EQ pVA h0 (FX12_findAhead_15  q y0 h) := by
  intro q
  induction q with
  | zero =>
    intro y0 h e
    exact e
  | succ q ih =>
    intro y0 h e
    exact (EQ_if e (frVA_FX12_findAhead_25 _ ih _ _ _ _ e))
theorem frVA_FX12_findAhead {h0 : ph_H}  (h : ph_H) (e : EQ pVA h0 h) : EQ pVA h0 (FX12_findAhead h) := (EQ_if (frVA_FX12_findAhead_15   _ _ _ (EQ_s rfl e)) e)
theorem frVA_FX12_ahead_48 {h0 : ph_H} (x1 : Int32) (x2 : Int32) (h : ph_H) (e : EQ pVA h0 h) : EQ pVA h0 (FX12_ahead_48 x1 x2 h).2 := (EQ2_if e e)
theorem frVA_FX12_ahead {h0 : ph_H} (a0 : Int32) (a1 : Int32) (h : ph_H) (e : EQ pVA h0 h) : EQ pVA h0 (FX12_ahead a0 a1 h).2 := (EQ2_if (EQ_s rfl e) (EQ2_if (EQ_s rfl e) (EQ2_if (EQ_s rfl e) (frVA_FX12_ahead_48 _ _  _ (frVA_FX12_findAhead   _ (EQ_s rfl e))))))
theorem frVA_FX12_race_115 {h0 : ph_H} (L38 : Int32 → Int32 → Int32 → Int32 → ph_H → Int32 × ph_H) (L50 : Int32 → Int32 → Int32 → Int32 → Int32 → ph_H → Int32 × ph_H) (x1 : Int32) (x2 : Int32) (x4 : Int32) (x5 : Int32) (s0 : Int32) (s1 : Int32) (hL38 : ∀ (y0 : Int32) (y1 : Int32) (y2 : Int32) (y3 : Int32) (h : ph_H), EQ pVA h0 h → EQ pVA h0 (L38 y0 y1 y2 y3 h).2) (hL50 : ∀ (y0 : Int32) (y1 : Int32) (y2 : Int32) (y3 : Int32) (y4 : Int32) (h : ph_H), EQ pVA h0 h → EQ pVA h0 (L50 y0 y1 y2 y3 y4 h).2) (h : ph_H) (e : EQ pVA h0 h) : EQ pVA h0 (FX12_race_115 L38 L50 x1 x2 x4 x5 s0 s1 h).2 := (hL50 _ _ _ _ _ _ e)
theorem frVA_FX12_race_104 {h0 : ph_H} (L38 : Int32 → Int32 → Int32 → Int32 → ph_H → Int32 × ph_H) (L50 : Int32 → Int32 → Int32 → Int32 → Int32 → ph_H → Int32 × ph_H) (x1 : Int32) (x2 : Int32) (x3 : Int32) (x4 : Int32) (x5 : Int32) (x6 : Int32) (hL38 : ∀ (y0 : Int32) (y1 : Int32) (y2 : Int32) (y3 : Int32) (h : ph_H), EQ pVA h0 h → EQ pVA h0 (L38 y0 y1 y2 y3 h).2) (hL50 : ∀ (y0 : Int32) (y1 : Int32) (y2 : Int32) (y3 : Int32) (y4 : Int32) (h : ph_H), EQ pVA h0 h → EQ pVA h0 (L50 y0 y1 y2 y3 y4 h).2) (h : ph_H) (e : EQ pVA h0 h) : EQ pVA h0 (FX12_race_104 L38 L50 x1 x2 x3 x4 x5 x6 h).2 := (EQ2_if (frVA_FX12_race_115 _ _ _ _ _ _ _ _ hL38 hL50 _ e) (frVA_FX12_race_115 _ _ _ _ _ _ _ _ hL38 hL50 _ e))
theorem frVA_FX12_race_50 {h0 : ph_H} (L38 : Int32 → Int32 → Int32 → Int32 → ph_H → Int32 × ph_H) (hL38 : ∀ (y0 : Int32) (y1 : Int32) (y2 : Int32) (y3 : Int32) (h : ph_H), EQ pVA h0 h → EQ pVA h0 (L38 y0 y1 y2 y3 h).2) : ∀ (q : Nat) (y0 : Int32) (y1 : Int32) (y2 : Int32) (y3 : Int32) (y4 : Int32) (h : ph_H), EQ pVA h0 h → EQ pVA h0 (FX12_race_50 L38 q y0 y1 y2 y3 y4 h).2 := by
  intro q
  induction q with
  | zero =>
    intro y0 y1 y2 y3 y4 h e
    exact e
  | succ q ih =>
    intro y0 y1 y2 y3 y4 h e
    exact (EQ2_if (hL38 _ _ _ _ _ e) (EQ2_if (frVA_FX12_race_104 _ _ _ _ _ _ _ _ hL38 ih _ e) (EQ2_if (EQ2_if (frVA_FX12_race_104 _ _ _ _ _ _ _ _ hL38 ih _ e) (EQ2_if e (EQ2_if e e))) (frVA_FX12_race_104 _ _ _ _ _ _ _ _ hL38 ih _ e))))
theorem frVA_FX12_race_38 {h0 : ph_H}  : ∀ (q : Nat) (y0 : Int32) (y1 : Int32) (y2 : Int32) (y3 : Int32) (h : ph_H), EQ pVA h0 h → EQ pVA h0 (FX12_race_38  q y0 y1 y2 y3 h).2 := by
  intro q
  induction q with
  | zero =>
    intro y0 y1 y2 y3 h e
    exact e
  | succ q ih =>
    intro y0 y1 y2 y3 h e
    exact (EQ2_if (EQ2_if e e) (frVA_FX12_race_50 _ ih _ _ _ _ _ _ _ e))
theorem frVA_FX12_race_33 {h0 : ph_H} (x1 : Int32) (x2 : Int32) (h : ph_H) (e : EQ pVA h0 h) : EQ pVA h0 (FX12_race_33 x1 x2 h).2 := (frVA_FX12_race_38   _ _ _ _ _ _ e)
theorem frVA_FX12_race {h0 : ph_H} (a0 : Int32) (a1 : Int32) (h : ph_H) (e : EQ pVA h0 h) : EQ pVA h0 (FX12_race a0 a1 h).2 := (EQ2_if (EQ_s rfl e) (EQ2_if (EQ_s rfl e) (frVA_FX12_race_33 _ _  _ (frVA_FX12_findAhead   _ (EQ_s rfl e)))))
end MG_48_x67F4
section MG_48_x68R0
/-! ORDER: the class prepares it -/
theorem fill_49 : ∀ (q : Nat) (v x n : Int32) (h : ph_H), 0 ≤ x.toInt → x.toInt ≤ n.toInt → n.toInt ≤ 1000 → n.toInt - x.toInt < (q : Int) → (∀ k i, ¬ k = 49 → FJ7_fill_53178_k49_5 q v x n h k i = h k i) ∧ (∀ i : Nat, x.toInt ≤ i → (i : Int) < n.toInt → FJ7_fill_53178_k49_5 q v x n h 49 i = v) ∧ (∀ i : Nat, (i : Int) < x.toInt → FJ7_fill_53178_k49_5 q v x n h 49 i = h 49 i)
  | 0, v, x, n, h, a, b, c, m => by omega
  | q + 1, v, x, n, h, a, b, c, m => by
    have k1 : (1 : Int32).toInt = 1 := by decide
    unfold FJ7_fill_53178_k49_5
    by_cases d : n ≤ x
    · rw [if_pos d]
      rw [Int32.le_iff_toInt_le] at d
      exact ⟨fun _ _ _ => rfl, fun i e f => by omega, fun _ _ => rfl⟩
    · rw [if_neg d]
      rw [Int32.le_iff_toInt_le] at d
      have e1 : (x + 1).toInt = x.toInt + 1 := by rw [ti_add (by omega) (by omega), k1]
      have xn : (x.toNatClampNeg : Int) = x.toInt := by
        rw [← Int32.toNat_toInt]
        omega
      obtain ⟨a1, a2, a3⟩ := fill_49 q v (x + 1) n (hs h 49 x.toNatClampNeg v) (by omega) (by omega) c (by omega)
      refine ⟨fun k i e => ?_, fun i e f => ?_, fun i e => ?_⟩
      · rw [a1 k i e, hs_o (fun w => e w.1)]
      · by_cases g : (i : Int) = x.toInt
        · rw [a3 i (by omega), hs_get, if_pos rfl, if_pos (by omega)]
        · exact a2 i (by omega) f
      · rw [a3 i (by omega), hs_o (fun w => by omega)]
theorem fill_50 : ∀ (q : Nat) (v x n : Int32) (h : ph_H), 0 ≤ x.toInt → x.toInt ≤ n.toInt → n.toInt ≤ 1000 → n.toInt - x.toInt < (q : Int) → (∀ k i, ¬ k = 50 → FJ7_fill_53178_k50_5 q v x n h k i = h k i) ∧ (∀ i : Nat, x.toInt ≤ i → (i : Int) < n.toInt → FJ7_fill_53178_k50_5 q v x n h 50 i = v) ∧ (∀ i : Nat, (i : Int) < x.toInt → FJ7_fill_53178_k50_5 q v x n h 50 i = h 50 i)
  | 0, v, x, n, h, a, b, c, m => by omega
  | q + 1, v, x, n, h, a, b, c, m => by
    have k1 : (1 : Int32).toInt = 1 := by decide
    unfold FJ7_fill_53178_k50_5
    by_cases d : n ≤ x
    · rw [if_pos d]
      rw [Int32.le_iff_toInt_le] at d
      exact ⟨fun _ _ _ => rfl, fun i e f => by omega, fun _ _ => rfl⟩
    · rw [if_neg d]
      rw [Int32.le_iff_toInt_le] at d
      have e1 : (x + 1).toInt = x.toInt + 1 := by rw [ti_add (by omega) (by omega), k1]
      have xn : (x.toNatClampNeg : Int) = x.toInt := by
        rw [← Int32.toNat_toInt]
        omega
      obtain ⟨a1, a2, a3⟩ := fill_50 q v (x + 1) n (hs h 50 x.toNatClampNeg v) (by omega) (by omega) c (by omega)
      refine ⟨fun k i e => ?_, fun i e f => ?_, fun i e => ?_⟩
      · rw [a1 k i e, hs_o (fun w => e w.1)]
      · by_cases g : (i : Int) = x.toInt
        · rw [a3 i (by omega), hs_get, if_pos rfl, if_pos (by omega)]
        · exact a2 i (by omega) f
      · rw [a3 i (by omega), hs_o (fun w => by omega)]
/-- how many of the first k steps RACE with t; how many pairs up to T -/
def cN (G : ph_H) (t : Int32) : Nat → Nat
  | 0 => 0
  | k + 1 => cN G t k + (if FX12_racing (Int32.ofNat (k + 1)) t G < 0 then 0 else 1)
def tN (G : ph_H) : Nat → Nat
  | 0 => 0
  | k + 1 => tN G k + cN G (Int32.ofNat (k + 1)) k
theorem ofN_e {s : Int32} {j : Nat} (e : s.toInt = j + 1) (b : j ≤ 900) : Int32.ofNat (j + 1) = s ∧ s.toNatClampNeg = j + 1 := by
  have a := ofN (v := j + 1) (by omega)
  have e1 : Int32.ofNat (j + 1) = s := tI (by rw [a.2, e]; omega)
  exact ⟨e1, by rw [← e1]; exact a.1⟩
theorem cN_s (G : ph_H) (t : Int32) {s : Int32} {j : Nat} (e : s.toInt = j + 1) (b : j ≤ 900) : cN G t (j + 1) = cN G t j + (if FX12_racing s t G < 0 then 0 else 1) := by
  show cN G t j + (if FX12_racing (Int32.ofNat (j + 1)) t G < 0 then 0 else 1) = _
  rw [(ofN_e e b).1]
theorem tN_s (G : ph_H) {s : Int32} {j : Nat} (e : s.toInt = j + 1) (b : j ≤ 900) : tN G (j + 1) = tN G j + cN G s j := by
  show tN G j + cN G (Int32.ofNat (j + 1)) j = _
  rw [(ofN_e e b).1]
theorem cN_le (G : ph_H) (t : Int32) : ∀ k, cN G t k ≤ k
  | 0 => Nat.le_refl _
  | k + 1 => by
    unfold cN
    have := cN_le G t k
    split <;> omega
theorem cN_mo (G : ph_H) (t : Int32) (j : Nat) : ∀ k, cN G t j ≤ cN G t (j + k)
  | 0 => Nat.le_refl _
  | k + 1 => by
    have := cN_mo G t j k
    show _ ≤ cN G t (j + k) + _
    omega
theorem tN_mo (G : ph_H) (j : Nat) : ∀ k, tN G j ≤ tN G (j + k)
  | 0 => Nat.le_refl _
  | k + 1 => by
    have := tN_mo G j k
    show _ ≤ tN G (j + k) + _
    omega
theorem tN_le (G : ph_H) : ∀ k, k ≤ 300 → tN G k ≤ 300 * k
  | 0, _ => Nat.le_refl _
  | k + 1, b => by
    unfold tN
    have := tN_le G k (by omega)
    have := cN_le G (Int32.ofNat (k + 1)) k
    omega
/-- both sides say the same of t -/
def RQ (h G : ph_H) (t : Int32) : Prop := ∀ s : Int32, 1 ≤ s.toInt → s.toInt < t.toInt → (FX4_isRace s t h = 0 ∧ FX12_racing s t G < 0) ∨ (FX4_isRace s t h = 1 ∧ ¬ FX12_racing s t G < 0 ∧ FX12_racing s t G = FX10_placeOf t h)
theorem cR19 {h G : ph_H} {u : Int32} (R : RQ h G u) {m : Nat} (um : u.toInt = m + 1) (mb : m ≤ 300) : ∀ (q : Nat) (c s : Int32) (j : Nat), s.toInt = j + 1 → j ≤ m → m - j < q → c.toInt = cN G u j → (FX4_countRaces_19 q u c s h).toInt = cN G u m
  | 0, c, s, j, sj, jm, fq, cj => by omega
  | q + 1, c, s, j, sj, jm, fq, cj => by
    have k1 : (1 : Int32).toInt = 1 := by decide
    unfold FX4_countRaces_19 FX4_countRaces_36
    by_cases d : u ≤ s
    · rw [if_pos d]
      rw [Int32.le_iff_toInt_le] at d
      have : j = m := by omega
      rw [cj, this]
    · rw [if_neg d]
      rw [Int32.le_iff_toInt_le] at d
      have e1 : (s + 1).toInt = (j + 1 : Nat) + 1 := by rw [ti_add (by omega) (by omega), k1]; omega
      have cl := cN_le G u j
      have ec : (c + 1).toInt = c.toInt + 1 := by rw [ti_add (by omega) (by omega), k1]
      have st := cN_s G u sj (by omega)
      rcases R s (by omega) (by omega) with ⟨a, b⟩ | ⟨a, b, _⟩
      · rw [if_pos a]
        rw [if_pos b] at st
        exact cR19 R um mb q c (s + 1) (j + 1) e1 (by omega) (by omega) (by omega)
      · rw [if_neg (show ¬ FX4_isRace s u h = 0 by rw [a]; decide)]
        rw [if_neg b] at st
        exact cR19 R um mb q (c + 1) (s + 1) (j + 1) e1 (by omega) (by omega) (by omega)
theorem cN_no {h G : ph_H} {u : Int32} (R : RQ h G u) (e : FX10_placeOf u h = -2) : ∀ m : Nat, (m : Int) < u.toInt → m ≤ 900 → cN G u m = 0
  | 0, _, _ => rfl
  | m + 1, b, c => by
    have a := ofN (v := m + 1) (by omega)
    rw [cN_s G u (s := Int32.ofNat (m + 1)) (by rw [a.2]; omega) (by omega), cN_no R e m (by omega) (by omega)]
    rcases R (Int32.ofNat (m + 1)) (by rw [a.2]; omega) (by rw [a.2]; omega) with ⟨_, q⟩ | ⟨q, _⟩
    · rw [if_pos q]
    · unfold FX4_isRace at q
      rw [if_pos e] at q
      exact absurd q (by decide)
theorem cR_val {h G : ph_H} {u : Int32} (R : RQ h G u) {m : Nat} (um : u.toInt = m + 1) (mb : m ≤ 300) : (FX4_countRaces u h).toInt = cN G u m := by
  unfold FX4_countRaces
  by_cases d : FX10_placeOf u h = -2
  · rw [if_pos d, cN_no R d m (by omega) (by omega)]
    decide
  · rw [if_neg d]
    exact cR19 R um mb 2000 0 1 0 (by decide) (by omega) (by omega) (by show (0 : Int32).toInt = ((0 : Nat) : Int); decide)
def S4g (g G : ph_H) : Prop := ∀ k i, (k = 29 ∨ k = 32 ∨ k = 33) → G k i = g k i
def PI (g h : ph_H) (T : Nat) : Prop := LI g h T ∧ ∀ G, S4g g G → OLD g G ((g 0 38).toInt + 1) → (h 47 5).toInt = tN G T ∧ ∀ m : Nat, m < T → (h 51 (m + 1)).toInt = cN G (Int32.ofNat (m + 1)) m
theorem LI_fr {g h h' : ph_H} {T : Int} (I : LI g h T) (e8 : ∀ i, h' 48 i = h 48 i) (e9 : ∀ i, h' 49 i = h 49 i) (e0 : ∀ i, h' 50 i = h 50 i) : LI g h' T := by
  simpa only [LI, e8, e9, e0] using I
def pRd (k i : Nat) : Prop := ¬ k = 48 ∧ ¬ k = 49 ∧ ¬ k = 50 ∧ ¬ k = 51 ∧ ¬ (k = 47 ∧ i = 5) ∧ ¬ (k = 47 ∧ i = 6)
theorem RRc_fr {g h h' : ph_H} (R : RRc g h) (e : ∀ k i, pRd k i → h' k i = h k i) : RRc g h' := by
  have e1 : ∀ i, h' 36 i = h 36 i := fun i => e _ _ (by unfold pRd; omega)
  have e2 : ∀ i, h' 43 i = h 43 i := fun i => e _ _ (by unfold pRd; omega)
  have e3 : ∀ i, h' 44 i = h 44 i := fun i => e _ _ (by unfold pRd; omega)
  simpa only [RRc, e1, e2, e3] using R
theorem RPl_fr {g h h' : ph_H} (R : RPl g h) (e : ∀ k i, pRd k i → h' k i = h k i) : RPl g h' := by
  have e1 : ∀ i, h' 39 i = h 39 i := fun i => e _ _ (by unfold pRd; omega)
  have e2 : ∀ i, h' 40 i = h 40 i := fun i => e _ _ (by unfold pRd; omega)
  simpa only [RPl, e1, e2] using R
theorem RQ_of {g h G : ph_H} {T : Int} (f38 : iv 0 300 (g 0 38)) (M : MG g) (RR : RRc g h) (RP : RPl g h) (K : KN g h T) (Tn : T ≤ (g 0 38).toInt) (S4 : S4g g G) (O : OLD g G ((g 0 38).toInt + 1)) {t : Int32} (tT : t.toInt ≤ T) : RQ h G t := fun s s1 st => race_eq f38 M RR RP K Tn S4 O s1 st tT
theorem prep31 {g : ph_H} {Gs : Nat → ph_H} (S : SQ g Gs (g 0 38).toNatClampNeg) (f38 : iv 0 300 (g 0 38)) : ∀ (q : Nat) (t : Int32) (h : ph_H) (m : Nat), t.toInt = m + 1 → (m : Int) ≤ (g 0 38).toInt → (g 0 38).toInt - m < q → h 35 11 = g 0 38 → RRc g h → RPl g h → PI g h m → PI g (FX4_prepare_31 q t h) (g 0 38).toNatClampNeg ∧ FX4_prepare_31 q t h 47 6 = 1 ∧ (∀ k i, pRd k i → FX4_prepare_31 q t h k i = h k i)
  | 0, t, h, m, tm, mn, fq, e11, RR, RP, I => by omega
  | q + 1, t, h, m, tm, mn, fq, e11, RR, RP, I => by
    have k1 : (1 : Int32).toInt = 1 := by decide
    have n38 := iv_nat f38 rfl
    have f38' := f38
    unfold iv at f38'
    unfold FX4_prepare_31
    by_cases d : h 35 11 < t
    · rw [if_pos d]
      rw [Int32.lt_iff_toInt_lt, e11] at d
      have em : (g 0 38).toNatClampNeg = m := by omega
      rw [em]
      refine ⟨⟨LI_fr I.1 (fun i => hs_o (by omega)) (fun i => hs_o (by omega)) (fun i => hs_o (by omega)), fun G S4 O => ?_⟩, by rw [hs_get, if_pos rfl, if_pos rfl], fun k i p => hs_o (fun w => p.2.2.2.2.2 w)⟩
      obtain ⟨a, b⟩ := I.2 G S4 O
      rw [hs_o (show ¬ (47 = 47 ∧ 5 = 6) by omega)]
      exact ⟨a, fun j hj => by rw [hs_o (by omega)]; exact b j hj⟩
    · rw [if_neg d]
      rw [Int32.lt_iff_toInt_lt, e11] at d
      obtain ⟨L, l1, l2⟩ := learn_LI S f38 RR (T := m) (t := t) tm (by omega) (by omega) I.1
      have fr1 : ∀ k i, pRd k i → FX4_learn t h k i = h k i := fun k i p => l1 k i p.1 p.2.1 p.2.2.1
      have r47 : FX4_learn t h 47 5 = h 47 5 := l1 _ _ (by omega) (by omega) (by omega)
      have r51 : ∀ i, FX4_learn t h 51 i = h 51 i := fun i => l1 _ _ (by omega) (by omega) (by omega)
      generalize FX4_learn t h = h1 at L l1 l2 fr1 r47 r51 ⊢
      have RR1 := RRc_fr RR fr1
      have RP1 := RPl_fr RP fr1
      have M := MG_of S f38
      have K1 : KN g h1 (m + 1) := L.2.2.2.2
      unfold FX4_prepare_47
      obtain ⟨o1, o2⟩ := ofN_e tm (by omega)
      have t2 : (t + 1).toInt = (m + 1 : Nat) + 1 := by rw [ti_add (by omega) (by omega), k1]; omega
      have e51 : hs h1 51 t.toNatClampNeg (FX4_countRaces t h1) 51 t.toNatClampNeg = FX4_countRaces t h1 := by rw [hs_get, if_pos rfl, if_pos rfl]
      rw [e51]
      have fr2 : ∀ k i, pRd k i → hs (hs h1 51 t.toNatClampNeg (FX4_countRaces t h1)) 47 5 (h1 47 5 + FX4_countRaces t h1) k i = h k i := fun k i p => by
        rw [hs_o (fun w => p.2.2.2.2.1 w), hs_o (fun w => p.2.2.2.1 w.1)]
        exact fr1 k i p
      have I2 : PI g (hs (hs h1 51 t.toNatClampNeg (FX4_countRaces t h1)) 47 5 (h1 47 5 + FX4_countRaces t h1)) (m + 1) := by
        refine ⟨LI_fr L (fun i => ?_) (fun i => ?_) (fun i => ?_), fun G S4 O => ?_⟩
        · rw [hs_o (by omega), hs_o (by omega)]
        · rw [hs_o (by omega), hs_o (by omega)]
        · rw [hs_o (by omega), hs_o (by omega)]
        · obtain ⟨a, b⟩ := I.2 G S4 O
          have cv := cR_val (RQ_of f38 M RR1 RP1 K1 (by omega) S4 O (t := t) (by omega)) tm (by omega)
          have cl := cN_le G t m
          have tl := tN_le G m (by omega)
          refine ⟨?_, fun j hj => ?_⟩
          · rw [hs_get, if_pos rfl, if_pos rfl, tN_s G tm (by omega), r47, ti_add (by omega) (by omega), a, cv]
            omega
          · rw [hs_o (by omega)]
            by_cases c : j = m
            · rw [c, hs_get, if_pos rfl, if_pos o2.symm, o1]
              exact cv
            · rw [hs_o (by omega), r51]
              exact b j (by omega)
      obtain ⟨a1, a2, a3⟩ := prep31 S f38 q (t + 1) _ (m + 1) t2 (by omega) (by omega) ((fr2 35 11 (by unfold pRd; omega)).trans e11) (RRc_fr RR fr2) (RPl_fr RP fr2) I2
      exact ⟨a1, a2, fun k i p => (a3 k i p).trans (fr2 k i p)⟩
theorem prepare_PI {g h : ph_H} {Gs : Nat → ph_H} (S : SQ g Gs (g 0 38).toNatClampNeg) (f38 : iv 0 300 (g 0 38)) (e11 : h 35 11 = g 0 38) (RR : RRc g h) (RP : RPl g h) (I : h 47 6 = 0 ∨ PI g h (g 0 38).toNatClampNeg) : PI g (FX4_prepare h) (g 0 38).toNatClampNeg ∧ (∀ k i, pRd k i → FX4_prepare h k i = h k i) := by
  have f38' := f38
  unfold iv at f38'
  have k16 : (16 : Int32).toInt = 16 := by decide
  have k48 : (48 : Int32).toInt = 48 := by decide
  have k0 : (0 : Int32).toInt = 0 := by decide
  unfold FX4_prepare
  by_cases c : h 47 6 = 0
  · rw [if_pos c]
    unfold FX4_prepare_16 FX4_prepare_24 FJ7_fill_53178_k49 FJ7_fill_53178_k50
    obtain ⟨a1, a2, a3⟩ := fill_49 2000 0 0 16 h (by decide) (by decide) (by decide) (by decide)
    generalize FJ7_fill_53178_k49_5 2000 0 0 16 h = h1 at a1 a2 a3 ⊢
    obtain ⟨b1, b2, b3⟩ := fill_50 2000 0 0 48 h1 (by decide) (by decide) (by decide) (by decide)
    generalize FJ7_fill_53178_k50_5 2000 0 0 48 h1 = h2 at b1 b2 b3 ⊢
    have fr : ∀ k i, pRd k i → hs h2 47 5 0 k i = h k i := fun k i p => by
      rw [hs_o (fun w => p.2.2.2.2.1 w), b1 k i p.2.2.1, a1 k i p.2.1]
    have I0 : PI g (hs h2 47 5 0) 0 := by
      refine ⟨⟨fun p k hp hk => ?_, fun p k hp hk => ?_, fun p s _ s1 s2 => ?_, fun p s _ s1 s2 => ?_, fun t s s1 s2 s3 => ?_⟩, fun G _ _ => ⟨?_, fun m hm => by omega⟩⟩
      · rw [hs_o (by omega), b1 _ _ (by omega), a2 (4 * p + k) (by rw [k0]; omega) (by rw [k16]; omega)]
        decide
      · rw [hs_o (by omega), b2 (4 * p + k) (by rw [k0]; omega) (by rw [k48]; omega)]
        decide
      · omega
      · omega
      · omega
      · rw [hs_get, if_pos rfl, if_pos rfl]
        rfl
    obtain ⟨c1, c2, c3⟩ := prep31 S f38 2000 1 (hs h2 47 5 0) 0 (by decide) (by omega) (by omega) ((fr 35 11 (by unfold pRd; omega)).trans e11) (RRc_fr RR fr) (RPl_fr RP fr) I0
    exact ⟨c1, fun k i p => (c3 k i p).trans (fr k i p)⟩
  · rw [if_neg c]
    exact ⟨I.elim (fun w => absurd w c) id, fun _ _ _ => rfl⟩
end MG_48_x68R0
section MG_48_x69R1
/-! RACES: which one is the i-th -/
def selR (k s t r : Int32) : Int32 := if k = 1 then s else if k = 2 then t else r
theorem rc50_0 {L38 : Int32 → Int32 → Int32 → Int32 → ph_H → Int32 × ph_H} {G : ph_H} {x1 t : Int32} {B m : Nat} (tm : t.toInt = m + 1) (mb : m ≤ 300) (Bb : B ≤ 90000) : ∀ (q : Nat) (x3 s : Int32) (j : Nat), s.toInt = j + 1 → j ≤ m → m - j < q → x3.toInt = B + cN G t j → ∃ x3' : Int32, x3'.toInt = B + cN G t m ∧ FX12_race_50 L38 q x1 0 x3 t s G = L38 x1 0 x3' (t + 1) G
  | 0, x3, s, j, sj, jm, fq, xj => by omega
  | q + 1, x3, s, j, sj, jm, fq, xj => by
    have k1 : (1 : Int32).toInt = 1 := by decide
    have k0 : (0 : Int32).toInt = 0 := by decide
    unfold FX12_race_50 FX12_race_104 FX12_race_115
    by_cases d : t ≤ s
    · rw [if_pos d]
      rw [Int32.le_iff_toInt_le] at d
      have : j = m := by omega
      exact ⟨x3, by rw [xj, this], rfl⟩
    · rw [if_neg d]
      rw [Int32.le_iff_toInt_le] at d
      have e1 : (s + 1).toInt = (j + 1 : Nat) + 1 := by rw [ti_add (by omega) (by omega), k1]; omega
      have cl := cN_le G t j
      have st := cN_s G t sj (by omega)
      have ec : (x3 + 1).toInt = x3.toInt + 1 := by rw [ti_add (by omega) (by omega), k1]
      have ez : (x3 + 0).toInt = x3.toInt := by rw [ti_add (by omega) (by omega), k0]; omega
      have z0 : (0 : Int32) ≤ 0 := by decide
      by_cases r : FX12_racing s t G < 0
      · rw [if_pos r, if_pos r]
        rw [if_pos r] at st
        exact rc50_0 (G := G) tm mb Bb q (x3 + 0) (s + 1) (j + 1) e1 (by omega) (by omega) (by omega)
      · rw [if_neg r, if_neg r, if_pos z0]
        rw [if_neg r] at st
        obtain ⟨x, a, b⟩ := rc50_0 (L38 := L38) (G := G) (x1 := x1) tm mb Bb q (x3 + 1) (s + 1) (j + 1) e1 (by omega) (by omega) (by omega)
        refine ⟨x, a, ?_⟩
        rw [b]
        split <;> rfl
theorem rc38_0 {G : ph_H} {x1 : Int32} (f38 : iv 0 300 (G 0 38)) : ∀ (q : Nat) (x3 t : Int32) (m : Nat), t.toInt = m + 1 → ((m : Int) ≤ (G 0 38).toInt ∨ (m : Int) = (G 0 38).toInt + 1 ∧ tN G m = tN G (G 0 38).toNatClampNeg) → (G 0 38).toInt + 1 - m < q → x3.toInt = tN G m → (FX12_race_38 q x1 0 x3 t G).1.toInt = tN G (G 0 38).toNatClampNeg ∧ (FX12_race_38 q x1 0 x3 t G).2 = G
  | 0, x3, t, m, tm, mn, fq, xm => by omega
  | q + 1, x3, t, m, tm, mn, fq, xm => by
    have k1 : (1 : Int32).toInt = 1 := by decide
    have n38 := iv_nat f38 rfl
    have f38' := f38
    unfold iv at f38'
    unfold FX12_race_38
    by_cases d : G 0 38 < t
    · rw [if_pos d, if_pos rfl]
      rw [Int32.lt_iff_toInt_lt] at d
      rcases mn with mn | ⟨_, mn⟩
      · have em : (G 0 38).toNatClampNeg = m := by omega
        rw [em]
        exact ⟨xm, rfl⟩
      · rw [← mn]
        exact ⟨xm, rfl⟩
    · rw [if_neg d]
      rw [Int32.lt_iff_toInt_lt] at d
      have tl := tN_le G m (by omega)
      obtain ⟨x, a, b⟩ := rc50_0 (L38 := FX12_race_38 q) (G := G) (x1 := x1) (B := tN G m) tm (by omega) (by omega) 2000 x3 1 0 (by decide) (by omega) (by omega) (by rw [xm]; exact (Int.add_zero _).symm)
      rw [b]
      have t2 : (t + 1).toInt = (m + 1 : Nat) + 1 := by rw [ti_add (by omega) (by omega), k1]; omega
      exact rc38_0 f38 q x (t + 1) (m + 1) t2 (Or.inl (by omega)) (by omega) (by rw [a, tN_s G tm (by omega)]; omega)
/-- the i-th pair -/
def isP (G : ph_H) (i s t : Int32) : Prop := 1 ≤ s.toInt ∧ s.toInt < t.toInt ∧ t.toInt ≤ (G 0 38).toInt ∧ ¬ FX12_racing s t G < 0 ∧ i.toInt = tN G (t.toNatClampNeg - 1) + cN G t (s.toNatClampNeg - 1)
theorem rc50_k {L38 : Int32 → Int32 → Int32 → Int32 → ph_H → Int32 × ph_H} {G : ph_H} {i k t : Int32} (k13 : 1 ≤ k.toInt ∧ k.toInt ≤ 3) {m : Nat} (tm : t.toInt = m + 1) (mb : m ≤ 300) (tn : t.toInt ≤ (G 0 38).toInt) : ∀ (q : Nat) (x3 s : Int32) (j : Nat), s.toInt = j + 1 → j ≤ m → m - j < q → x3.toInt = tN G m + cN G t j → (∃ s', isP G i s' t ∧ FX12_race_50 L38 q i k x3 t s G = (selR k s' t (FX12_racing s' t G), G)) ∨ ((∀ s' : Int32, s.toInt ≤ s'.toInt → ¬ isP G i s' t) ∧ ∃ x3' : Int32, x3'.toInt = tN G m + cN G t m ∧ FX12_race_50 L38 q i k x3 t s G = L38 i k x3' (t + 1) G)
  | 0, x3, s, j, sj, jm, fq, xj => by omega
  | q + 1, x3, s, j, sj, jm, fq, xj => by
    have k1 : (1 : Int32).toInt = 1 := by decide
    have k0 : (0 : Int32).toInt = 0 := by decide
    have tl := tN_le G m mb
    have o2 := (ofN_e tm (by omega)).2
    have o3 := (ofN_e sj (by omega)).2
    unfold FX12_race_50 FX12_race_104 FX12_race_115
    by_cases d : t ≤ s
    · rw [if_pos d]
      rw [Int32.le_iff_toInt_le] at d
      have : j = m := by omega
      exact Or.inr ⟨fun s' a w => by have := w.2.1; omega, x3, by rw [xj, this], rfl⟩
    · rw [if_neg d]
      rw [Int32.le_iff_toInt_le] at d
      have e1 : (s + 1).toInt = (j + 1 : Nat) + 1 := by rw [ti_add (by omega) (by omega), k1]; omega
      have cl := cN_le G t j
      have st := cN_s G t sj (by omega)
      have ec : (x3 + 1).toInt = x3.toInt + 1 := by rw [ti_add (by omega) (by omega), k1]
      have ez : (x3 + 0).toInt = x3.toInt := by rw [ti_add (by omega) (by omega), k0]; omega
      by_cases r : FX12_racing s t G < 0
      · rw [if_pos r, if_pos r]
        rw [if_pos r] at st
        rcases rc50_k (L38 := L38) (G := G) (i := i) (k := k) k13 tm mb tn q (x3 + 0) (s + 1) (j + 1) e1 (by omega) (by omega) (by omega) with w | ⟨w, v⟩
        · exact Or.inl w
        · refine Or.inr ⟨fun s' a x => ?_, v⟩
          by_cases f : s'.toInt = s.toInt
          · rw [tI f] at x
            exact x.2.2.2.1 r
          · exact w s' (by omega) x
      · rw [if_neg r, if_neg r]
        rw [if_neg r] at st
        by_cases f : x3 = i
        · rw [if_pos f]
          left
          refine ⟨s, ⟨by omega, by omega, tn, r, ?_⟩, ?_⟩
          · rw [← f, xj, o2, o3]
            rfl
          · rw [if_neg (show ¬ k ≤ 0 by rw [Int32.le_iff_toInt_le, k0]; omega)]
            unfold selR
            split
            · rfl
            · split <;> rfl
        · rw [if_neg f]
          rcases rc50_k (L38 := L38) (G := G) (i := i) (k := k) k13 tm mb tn q (x3 + 1) (s + 1) (j + 1) e1 (by omega) (by omega) (by omega) with w | ⟨w, v⟩
          · exact Or.inl w
          · refine Or.inr ⟨fun s' a x => ?_, v⟩
            by_cases f2 : s'.toInt = s.toInt
            · rw [tI f2] at x
              apply f
              refine tI ?_
              rw [x.2.2.2.2, xj, o2, o3]
              rfl
            · exact w s' (by omega) x
theorem rc38_k {G : ph_H} {i k : Int32} (k13 : 1 ≤ k.toInt ∧ k.toInt ≤ 3) (f38 : iv 0 300 (G 0 38)) : ∀ (q : Nat) (x3 t : Int32) (m : Nat), t.toInt = m + 1 → (G 0 38).toInt + 1 - m < q → (m : Int) ≤ (G 0 38).toInt + 1 → x3.toInt = tN G m → (∃ s' t', isP G i s' t' ∧ FX12_race_38 q i k x3 t G = (selR k s' t' (FX12_racing s' t' G), G)) ∨ ((∀ s' t' : Int32, t.toInt ≤ t'.toInt → ¬ isP G i s' t') ∧ FX12_race_38 q i k x3 t G = (-1, G))
  | 0, x3, t, m, tm, fq, mb, xm => by omega
  | q + 1, x3, t, m, tm, fq, mb, xm => by
    have k1 : (1 : Int32).toInt = 1 := by decide
    have k0 : (0 : Int32).toInt = 0 := by decide
    have n38 := iv_nat f38 rfl
    have f38' := f38
    unfold iv at f38'
    unfold FX12_race_38
    by_cases d : G 0 38 < t
    · rw [if_pos d, if_neg (show ¬ k = 0 by intro w; rw [w, k0] at k13; omega)]
      rw [Int32.lt_iff_toInt_lt] at d
      exact Or.inr ⟨fun s' t' a w => by have := w.2.2.1; omega, rfl⟩
    · rw [if_neg d]
      rw [Int32.lt_iff_toInt_lt] at d
      have t2 : (t + 1).toInt = (m + 1 : Nat) + 1 := by rw [ti_add (by omega) (by omega), k1]; omega
      rcases rc50_k (L38 := FX12_race_38 q) (G := G) (i := i) (k := k) k13 tm (by omega) (by omega) 2000 x3 1 0 (by decide) (by omega) (by omega) (by rw [xm]; exact (Int.add_zero _).symm) with ⟨s', a, b⟩ | ⟨w, x, a, b⟩
      · exact Or.inl ⟨s', t, a, b⟩
      · rw [b]
        rcases rc38_k (G := G) (i := i) (k := k) k13 f38 q x (t + 1) (m + 1) t2 (by omega) (by omega) (by rw [a, tN_s G tm (by omega)]; omega) with y | ⟨y, z⟩
        · exact Or.inl y
        · refine Or.inr ⟨fun s' t' e p => ?_, z⟩
          by_cases f : t'.toInt = t.toInt
          · rw [tI f] at p
            exact w s' (by rw [k1]; exact p.1) p
          · exact y s' t' (by omega) p
theorem isP_in {G : ph_H} {i s t : Int32} (f38 : iv 0 300 (G 0 38)) (p : isP G i s t) : 0 ≤ i.toInt ∧ i.toInt < tN G (G 0 38).toNatClampNeg ∧ i.toInt < tN G t.toNatClampNeg ∧ tN G (t.toNatClampNeg - 1) ≤ i.toInt := by
  obtain ⟨a, b, c, d, e⟩ := p
  have n38 := iv_nat f38 rfl
  unfold iv at f38
  obtain ⟨m, tm⟩ : ∃ m : Nat, t.toInt = m + 1 := ⟨(t.toInt - 1).toNat, by omega⟩
  obtain ⟨j, sj⟩ : ∃ j : Nat, s.toInt = j + 1 := ⟨(s.toInt - 1).toNat, by omega⟩
  have o2 := (ofN_e tm (by omega)).2
  have o3 := (ofN_e sj (by omega)).2
  have st := cN_s G t sj (by omega)
  have tt := tN_s G tm (by omega)
  rw [if_neg d] at st
  have y2 : m + 1 - 1 = m := by omega
  have y3 : j + 1 - 1 = j := by omega
  rw [o2, o3, y2, y3] at e
  have g1 := cN_mo G t (j + 1) (m - (j + 1))
  have g2 := tN_mo G (m + 1) ((G 0 38).toNatClampNeg - (m + 1))
  have y4 : j + 1 + (m - (j + 1)) = m := by omega
  have y5 : m + 1 + ((G 0 38).toNatClampNeg - (m + 1)) = (G 0 38).toNatClampNeg := by omega
  rw [y4] at g1
  rw [y5] at g2
  rw [o2, y2]
  exact ⟨by omega, by omega, by omega, by omega⟩
theorem isP_u {G : ph_H} {i s t s' t' : Int32} (f38 : iv 0 300 (G 0 38)) (p : isP G i s t) (p' : isP G i s' t') : s = s' ∧ t = t' := by
  have H : ∀ {s t s' t' : Int32}, isP G i s t → isP G i s' t' → ¬ t.toInt < t'.toInt := fun {s t s' t'} p p' lt => by
    obtain ⟨_, _, a, _⟩ := isP_in f38 p
    obtain ⟨_, _, _, b⟩ := isP_in f38 p'
    have f := f38
    unfold iv at f
    have n1 : (t.toNatClampNeg : Int) = t.toInt := by
      have := p.1
      have := p.2.1
      rw [← Int32.toNat_toInt]
      omega
    have n2 : (t'.toNatClampNeg : Int) = t'.toInt := by
      have := p'.1
      have := p'.2.1
      rw [← Int32.toNat_toInt]
      omega
    have g := tN_mo G t.toNatClampNeg (t'.toNatClampNeg - 1 - t.toNatClampNeg)
    have y : t.toNatClampNeg + (t'.toNatClampNeg - 1 - t.toNatClampNeg) = t'.toNatClampNeg - 1 := by omega
    rw [y] at g
    omega
  have et : t = t' := tI (by have := H p p'; have := H p' p; omega)
  refine ⟨?_, et⟩
  rw [← et] at p'
  have f := f38
  unfold iv at f
  have K : ∀ {s s' : Int32}, isP G i s t → isP G i s' t → ¬ s.toInt < s'.toInt := fun {s s'} p p' lt => by
    obtain ⟨a, b, c, d, e⟩ := p
    obtain ⟨a', b', c', d', e'⟩ := p'
    obtain ⟨j, sj⟩ : ∃ j : Nat, s.toInt = j + 1 := ⟨(s.toInt - 1).toNat, by omega⟩
    obtain ⟨j', sj'⟩ : ∃ j : Nat, s'.toInt = j + 1 := ⟨(s'.toInt - 1).toNat, by omega⟩
    have o3 := (ofN_e sj (by omega)).2
    have o3' := (ofN_e sj' (by omega)).2
    have st := cN_s G t sj (by omega)
    rw [if_neg d] at st
    have y3 : j + 1 - 1 = j := by omega
    have y3' : j' + 1 - 1 = j' := by omega
    rw [o3, y3] at e
    rw [o3', y3'] at e'
    have g1 := cN_mo G t (j + 1) (j' - (j + 1))
    have y4 : j + 1 + (j' - (j + 1)) = j' := by omega
    rw [y4] at g1
    omega
  exact tI (by have := K p p'; have := K p' p; omega)
end MG_48_x69R1
