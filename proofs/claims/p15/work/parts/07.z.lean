theorem j_vl {X : fj_X} {Y : fj_Y} {ad : Nat → Nat} {n : Nat} {S : ph_S} {h : ph_H} {pc : Nat} {lv lv' : List (Nat × Value)} {st : List Value} (k : FJ X Y ad n S h pc lv' st) (hs : lx_le lv' lv) : FJ X Y ad n S h pc lv st := j_lv hs k
theorem hz_k {h : ph_H} {k i k' i' : Nat} {v : Int32} (q : Nat.beq k' k = false) : hs h k i v k' i' = h k' i' := by
  have e : k' ≠ k := fun z => by subst z; rw [Nat.beq_refl] at q; exact absurd q (by decide)
  unfold hs
  rw [va_up_ne _ _ e]
theorem hz_i {h : ph_H} {k i i' : Nat} {v : Int32} (q : Nat.beq i' i = false) : hs h k i v k i' = h k i' := by
  have e : i' ≠ i := fun z => by subst z; rw [Nat.beq_refl] at q; exact absurd q (by decide)
  unfold hs
  rw [va_up_self]
  simp [upd, e]
theorem hz_e {h : ph_H} {k i : Nat} {v : Int32} : hs h k i v k i = v := by
  unfold hs
  rw [va_up_self]
  simp [upd]
