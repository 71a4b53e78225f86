/-! where a method returns -/
def RETi (X : fj_X) (Y : fj_Y) (ad : Nat → Nat) (n : Nat) (S : ph_S) (cc : ByteArray) (o : Int32 × ph_H) : Prop := ∀ pc lv, decode cc pc = .ok (.ireturn, 1) → FJ X Y ad n S o.2 pc lv [.int o.1]
def RETz (X : fj_X) (Y : fj_Y) (ad : Nat → Nat) (n : Nat) (S : ph_S) (cc : ByteArray) (o : Int32 × ph_H) : Prop := bo o.1 → ∀ pc lv, decode cc pc = .ok (.ireturn, 1) → FJ X Y ad n S o.2 pc lv [.int o.1]
def RETp (X : fj_X) (Y : fj_Y) (ad : Nat → Nat) (n : Nat) (S : ph_S) (h : ph_H) (cc : ByteArray) (v : Int32) : Prop := ∀ pc lv, decode cc pc = .ok (.ireturn, 1) → FJ X Y ad n S h pc lv [.int v]
def RETq (X : fj_X) (Y : fj_Y) (ad : Nat → Nat) (n : Nat) (S : ph_S) (h : ph_H) (cc : ByteArray) (v : Int32) : Prop := bo v → ∀ pc lv, decode cc pc = .ok (.ireturn, 1) → FJ X Y ad n S h pc lv [.int v]
def RETv (X : fj_X) (Y : fj_Y) (ad : Nat → Nat) (n : Nat) (S : ph_S) (cc : ByteArray) (h : ph_H) : Prop := ∀ pc lv, decode cc pc = .ok (.return_, 1) → FJ X Y ad n S h pc lv []
theorem sw_out {x : Int32} {lo hi : Int} (h : ∀ v : Int, lo ≤ v → v ≤ hi → ¬ x = Int32.ofInt v) : x.toInt < lo ∨ hi < x.toInt := by
  rcases Int.lt_or_le x.toInt lo with q | q
  · exact Or.inl q
  · refine Or.inr (Classical.byContradiction fun z => h x.toInt q (Int.not_lt.mp z) (Int32.ofInt_toInt x).symm)
