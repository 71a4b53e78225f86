/-! FROM THE CONSTRUCTORS' PLACES to those of the methods -/
def sg (k : Nat) : Nat := match k with
  | 53 => 56
  | 54 => 57
  | 55 => 58
  | 56 => 53
  | 57 => 54
  | 58 => 55
  | k => k
def S0 : ph_S := va_up (SC 1) 59 (.inr (.inr (3, 8, fun _ => none)))
abbrev hC0 : ph_H := hs h00 0 12 (-2)
abbrev hM0 : ph_H := hs h00 0 66 (-2)
theorem hC_row {k : Nat} (q : k ≠ 0) : hC0 k = fun _ => 0 := hs_row q
theorem hM_row {k : Nat} (q : k ≠ 0) : hM0 k = fun _ => 0 := hs_row q
theorem sg_lt {k : Nat} (q : k < 60) : sg k < 60 := by
  unfold sg
  split <;> omega
theorem sg_sg (k : Nat) : sg (sg k) = k := by
  by_cases q : 53 ≤ k ∧ k ≤ 58
  · have : k = 53 ∨ k = 54 ∨ k = 55 ∨ k = 56 ∨ k = 57 ∨ k = 58 := by omega
    rcases this with e | e | e | e | e | e <;> subst e <;> rfl
  · have e : sg k = k := by
      unfold sg
      split <;> first | omega | rfl
    rw [e, e]
theorem op_sg {ad : Nat → Nat} : (fun i => (opf i).map (fun k => ad (sg k))) = (fun i => (if i < 2 then some (53 + 1 + i) else none).map ad) := by
  funext i
  unfold opf
  by_cases q : i < 2
  · rw [if_pos q, if_pos q]
    have : i = 0 ∨ i = 1 := by omega
    rcases this with e | e <;> subst e <;> rfl
  · rw [if_neg q, if_neg q]
    rfl
set_option maxRecDepth 100000 in
theorem cv_e {cA : Nat → ClassId} {ad : Nat → Nat} (k : Nat) (q : k < 60) : ph_e cA (fun k => ad (sg k)) (S0 k) (hC0 k) = ph_e cA ad (SI (sg k)) (hC0 (sg k)) := by
  match k, q with
  | 0, _ => rfl
  | 1, _ => rfl
  | 2, _ => rfl
  | 3, _ => rfl
  | 4, _ => rfl
  | 5, _ => rfl
  | 6, _ => rfl
  | 7, _ => rfl
  | 8, _ => rfl
  | 9, _ => rfl
  | 10, _ => rfl
  | 11, _ => rfl
  | 12, _ => rfl
  | 13, _ => rfl
  | 14, _ => rfl
  | 15, _ => rfl
  | 16, _ => rfl
  | 17, _ => rfl
  | 18, _ => rfl
  | 19, _ => rfl
  | 20, _ => rfl
  | 21, _ => rfl
  | 22, _ => rfl
  | 23, _ => rfl
  | 24, _ => rfl
  | 25, _ => rfl
  | 26, _ => rfl
  | 27, _ => rfl
  | 28, _ => rfl
  | 29, _ => rfl
  | 30, _ => rfl
  | 31, _ => rfl
  | 32, _ => rfl
  | 33, _ => rfl
  | 34, _ => rfl
  | 35, _ => rfl
  | 36, _ => rfl
  | 37, _ => rfl
  | 38, _ => rfl
  | 39, _ => rfl
  | 40, _ => rfl
  | 41, _ => rfl
  | 42, _ => rfl
  | 43, _ => rfl
  | 44, _ => rfl
  | 45, _ => rfl
  | 46, _ => rfl
  | 47, _ => rfl
  | 48, _ => rfl
  | 49, _ => rfl
  | 50, _ => rfl
  | 51, _ => rfl
  | 52, _ => rfl
  | 53, _ => rfl
  | 54, _ => rfl
  | 55, _ => rfl
  | 56, _ =>
    show Sum.inl (cA 4, 2, Sum.inr (Sum.inr (Sum.inr (Sum.inr (fun i => (opf i).map (fun k => ad (sg k))))))) = _
    rw [op_sg]
    rfl
  | 57, _ => rfl
  | 58, _ => rfl
  | 59, _ => rfl
  | (k + 60), q => exact absurd q (by omega)
set_option maxRecDepth 100000 in
theorem cv_m {cA : Nat → ClassId} {ad : Nat → Nat} (k : Nat) (q : k < 50) : ph_e cA ad (SM k) (hM0 k) = ph_e cA ad (SMI k) (hM0 k) := by
  match k, q with
  | 0, _ => rfl
  | 1, _ => rfl
  | 2, _ => rfl
  | 3, _ => rfl
  | 4, _ => rfl
  | 5, _ => rfl
  | 6, _ => rfl
  | 7, _ => rfl
  | 8, _ => rfl
  | 9, _ => rfl
  | 10, _ => rfl
  | 11, _ => rfl
  | 12, _ => rfl
  | 13, _ => rfl
  | 14, _ => rfl
  | 15, _ => rfl
  | 16, _ => rfl
  | 17, _ => rfl
  | 18, _ => rfl
  | 19, _ => rfl
  | 20, _ => rfl
  | 21, _ => rfl
  | 22, _ => rfl
  | 23, _ => rfl
  | 24, _ => rfl
  | 25, _ => rfl
  | 26, _ => rfl
  | 27, _ => rfl
  | 28, _ => rfl
  | 29, _ => rfl
  | 30, _ => rfl
  | 31, _ => rfl
  | 32, _ => rfl
  | 33, _ => rfl
  | 34, _ => rfl
  | 35, _ => rfl
  | 36, _ => rfl
  | 37, _ => rfl
  | 38, _ => rfl
  | 39, _ => rfl
  | 40, _ => rfl
  | 41, _ => rfl
  | 42, _ => rfl
  | 43, _ => rfl
  | 44, _ => rfl
  | 45, _ => rfl
  | 46, _ => rfl
  | 47, _ => rfl
  | 48, _ => rfl
  | 49, _ => rfl
  | (k + 50), q => exact absurd q (by omega)
theorem W0 : WS 1 60 S0 := ⟨Nat.le_refl _, fun k hk => va_up_ne _ _ (by omega)⟩
set_option maxRecDepth 100000 in
theorem cl0 (k : Nat) (q : k < 60) : clE 60 (S0 k) := by
  match k, q with
  | 0, _ =>
    show ∀ j r, rfC_0 j = some (some r) → r < 60
    intro j r e
    unfold rfC_0 at e
    split at e <;> first | (cases e; decide) | cases e
  | 1, _ =>
    show ∀ j r, rfC_1 j = some (some r) → r < 60
    intro j r e
    unfold rfC_1 at e
    split at e <;> first | (cases e; decide) | cases e
  | 2, _ => exact trivial
  | 3, _ => exact trivial
  | 4, _ => exact trivial
  | 5, _ => exact trivial
  | 6, _ => exact trivial
  | 7, _ => exact trivial
  | 8, _ =>
    show ∀ j r, rfC_8 j = some (some r) → r < 60
    intro j r e
    unfold rfC_8 at e
    split at e <;> first | (cases e; decide) | cases e
  | 9, _ => exact trivial
  | 10, _ => exact trivial
  | 11, _ => exact trivial
  | 12, _ => exact trivial
  | 13, _ => exact trivial
  | 14, _ => exact trivial
  | 15, _ =>
    show ∀ j r, rfC_15 j = some (some r) → r < 60
    intro j r e
    unfold rfC_15 at e
    split at e <;> first | (cases e; decide) | cases e
  | 16, _ => exact trivial
  | 17, _ => exact trivial
  | 18, _ => exact trivial
  | 19, _ => exact trivial
  | 20, _ => exact trivial
  | 21, _ => exact trivial
  | 22, _ => exact trivial
  | 23, _ => exact trivial
  | 24, _ => exact trivial
  | 25, _ => exact rfO_lt (by decide) (Nat.le_refl _)
  | 26, _ => exact trivial
  | 27, _ => exact trivial
  | 28, _ => exact trivial
  | 29, _ => exact trivial
  | 30, _ => exact trivial
  | 31, _ => exact trivial
  | 32, _ => exact trivial
  | 33, _ => exact trivial
  | 34, _ => exact trivial
  | 35, _ =>
    show ∀ j r, rfC_35 j = some (some r) → r < 60
    intro j r e
    unfold rfC_35 at e
    split at e <;> first | (cases e; decide) | cases e
  | 36, _ => exact trivial
  | 37, _ => exact trivial
  | 38, _ => exact trivial
  | 39, _ => exact trivial
  | 40, _ => exact trivial
  | 41, _ => exact trivial
  | 42, _ => exact trivial
  | 43, _ => exact trivial
  | 44, _ => exact trivial
  | 45, _ => exact trivial
  | 46, _ => exact trivial
  | 47, _ =>
    show ∀ j r, rfC_47 j = some (some r) → r < 60
    intro j r e
    unfold rfC_47 at e
    split at e <;> first | (cases e; decide) | cases e
  | 48, _ => exact trivial
  | 49, _ => exact trivial
  | 50, _ => exact trivial
  | 51, _ => exact trivial
  | 52, _ =>
    show ∀ j r, rfC_52 j = some (some r) → r < 60
    intro j r e
    unfold rfC_52 at e
    split at e <;> first | (cases e; decide) | cases e
  | 53, _ => exact trivial
  | 54, _ => exact trivial
  | 55, _ => exact trivial
  | 56, _ =>
    show ∀ j r, opf j = some r → r < 60
    intro j r e
    unfold opf at e
    by_cases q : j < 2
    · rw [if_pos q] at e
      cases e
      omega
    · rw [if_neg q] at e
      cases e
  | 57, _ => exact trivial
  | 58, _ => exact trivial
  | 59, _ =>
    show ∀ j r, (fun _ => (none : Option Nat)) j = some r → r < 60
    intro j r e
    cases e
  | (k + 60), q => exact absurd q (by omega)
theorem K0 : KS 60 S0 hC0 := ⟨⟨fun _ => none, va_up_self .., fun i p e => by cases e⟩, cl0, fun k len a b => by omega⟩
theorem tC_0 (k i : Nat) : iv (tC k i).1 (tC k i).2 0 := by
  unfold tC
  split <;> first | exact iv_lit rfl | (split <;> exact iv_lit rfl)
theorem tM_0 (k i : Nat) : iv (tM k i).1 (tM k i).2 0 := by
  unfold tM
  split <;> first | exact iv_lit rfl | (split <;> exact iv_lit rfl)
theorem C0 : CT h00 hC0 := by
  refine ⟨hC0, ⟨fun i => ?_, ?_, ?_⟩, ?_, ⟨?_, ?_, ?_, ?_⟩, ?_⟩
  · rw [hC_row (by decide)]; rfl
  · rw [hC_row (by decide)]; rfl
  · rw [hC_row (by decide)]; rfl
  · exact IVc_s (h := h00) (fun k i => tC_0 k i) (iv_lit rfl)
  · exact fun i => Or.inl (by rw [hC_row (by decide)])
  · exact fun i => Or.inl (by rw [hC_row (by decide)])
  · intro e
    rw [hC_row (by decide)] at e
    exact absurd e (by decide)
  · intro i e
    rw [hC_row (by decide)] at e
    exact absurd (show (0 : Int32) = 4 from e) (by decide)
  · exact fun k i _ => rfl
theorem M0 : IT h00 hM0 := by
  refine ⟨hM0, ⟨fun i => ?_, ?_, ?_⟩, ⟨fun k i => ?_, fun i => Or.inl ?_, fun k i _ => rfl⟩, ?_⟩
  · rw [hM_row (by decide)]; rfl
  · exact hz_i rfl
  · exact hz_i rfl
  · by_cases e : k = 0 ∧ i = 66
    · obtain ⟨rfl, rfl⟩ := e
      exact iv_r (hz_e (h := h00)) (iv_lit rfl)
    · exact iv_r (hs_o (h := h00) e) (tM_0 k i)
  · rw [hM_row (by decide)]
  · exact hz_i rfl
