/-! THE FRAME'S JUDGEMENT over the pure heap: X is what stays fixed in a method, Y the tables' numbers, ad the addresses. -/
abbrev fj_X : Type := (Program × Launch × Env × Room) × (State × MethodId × Array Value × List Frame × Method × Code) × (Nat × Nat × (State → Prop)) × (Nat × (Nat → Prop))
abbrev fj_Y : Type := va_G × (Nat → ClassId)
abbrev tyl (cA : Nat → ClassId) : List (ClassId × FieldType) := [(cA 0, .int), (cA 1, .boolean), (cA 2, .byte), (cA 3, .object "ReplayBox$Held"), (cA 4, .array .int)]
def FJ (X : fj_X) (Y : fj_Y) (ad : Nat → Nat) (n : Nat) (S : ph_S) (h : Nat → Nat → Int32) (pc : Nat) (lv : List (Nat × Value)) (st : List Value) : Prop := match X, Y with
  | ((p, l, e, R), (s, m, args, below, meth, c), (cells, slots, Q), (nL, A)), (G, cA) => ∀ (H : Heap) (locs : List Loc) (ls : Array Slot), va_P G vwCl (ph_w n cA ad S h) H → va_D A (ph_w n cA ad S h) → va_S A s.heap H locs → lv_has ls nL lv → W p l e R s m args below meth c H locs cells slots Q (F0 m pc ls st)
/-- what is known of X: the code, its locals, its class, its room, how much it has made; the words; the tables -/
def FC (X : fj_X) (Y : fj_Y) (l : Launch) (cc : ByteArray) (nL : Nat) (own : String) (rm : Room) (mc ms : Nat) (ret : Option FieldType) : Prop := match X, Y with
  | ((p, l', e, R), (s, m, args, below, meth, c), (cells, slots, Q), (nL', A)), (G, cA) => p.tables.exec = Jvm.exec ∧ c.code = cc ∧ c.maxLocals = nL ∧ s.vm.findClass own = some m.cls ∧ (∀ w ∈ TW, w.before args s = true) ∧ va_K G vwCl (tyl cA) s ∧ meth.locks = false ∧ R = rm ∧ cells = mc ∧ slots = ms ∧ nL' = nL ∧ meth.sig.returnType = ret ∧ l' = l ∧ mc ≤ rm.cells ∧ ms ≤ rm.slots ∧ ∀ q, s.heap.size ≤ q → A q
section FJR
variable {X : fj_X} {Y : fj_Y} {l0 : Launch} {cc : ByteArray} {nL : Nat} {own : String} {rm : Room} {mc ms : Nat} {ret : Option FieldType} {ad : Nat → Nat} {n : Nat} {S : ph_S} {h : Nat → Nat → Int32} {pc : Nat} {lv : List (Nat × Value)} {st : List Value}
theorem j_lv {lv' : List (Nat × Value)} (hs : lx_le lv' lv) (k : FJ X Y ad n S h pc lv' st) : FJ X Y ad n S h pc lv st := by
  obtain ⟨⟨p, l, e, R⟩, ⟨s, m, args, below, meth, c⟩, ⟨cells, slots, Q⟩, ⟨nL', A⟩⟩ := X
  obtain ⟨G, cA⟩ := Y
  exact fun H locs ls hP hD hS hl => k H locs ls hP hD hS ⟨hl.1, hl.2.1, fun q hq => hl.2.2 q (lx_le_mem hs q hq)⟩
theorem j_iconst (C : FC X Y l0 cc nL own rm mc ms ret) {z : Int} {v : Int32} (hd : decode cc pc = .ok (.iconst z, 1)) (hv : Int32.ofInt z = v) (k : FJ X Y ad n S h (pc + 1) lv (.int v :: st)) : FJ X Y ad n S h pc lv (st) := by
  obtain ⟨⟨p, l, e, R⟩, ⟨s, m, args, below, meth, c⟩, ⟨cells, slots, Q⟩, ⟨nL', A⟩⟩ := X
  obtain ⟨G, cA⟩ := Y
  obtain ⟨hx, hb, hml, hown, hts, hK, hlk, hR, hce, hsl, hnl, hret, htr, hmc, hms, hA⟩ := C
  exact fun H locs ls hP hD hS hl => lv_iconst hx hb hd hv (k H locs ls hP hD hS hl)
theorem j_bipush (C : FC X Y l0 cc nL own rm mc ms ret) {z : Int} {v : Int32} (hd : decode cc pc = .ok (.bipush z, 2)) (hv : (Int8.ofInt z).toInt32 = v) (k : FJ X Y ad n S h (pc + 2) lv (.int v :: st)) : FJ X Y ad n S h pc lv (st) := by
  obtain ⟨⟨p, l, e, R⟩, ⟨s, m, args, below, meth, c⟩, ⟨cells, slots, Q⟩, ⟨nL', A⟩⟩ := X
  obtain ⟨G, cA⟩ := Y
  obtain ⟨hx, hb, hml, hown, hts, hK, hlk, hR, hce, hsl, hnl, hret, htr, hmc, hms, hA⟩ := C
  exact fun H locs ls hP hD hS hl => lv_bipush hx hb hd hv (k H locs ls hP hD hS hl)
theorem j_sipush (C : FC X Y l0 cc nL own rm mc ms ret) {z : Int} {v : Int32} (hd : decode cc pc = .ok (.sipush z, 3)) (hv : (Int16.ofInt z).toInt32 = v) (k : FJ X Y ad n S h (pc + 3) lv (.int v :: st)) : FJ X Y ad n S h pc lv (st) := by
  obtain ⟨⟨p, l, e, R⟩, ⟨s, m, args, below, meth, c⟩, ⟨cells, slots, Q⟩, ⟨nL', A⟩⟩ := X
  obtain ⟨G, cA⟩ := Y
  obtain ⟨hx, hb, hml, hown, hts, hK, hlk, hR, hce, hsl, hnl, hret, htr, hmc, hms, hA⟩ := C
  exact fun H locs ls hP hD hS hl => lv_sipush hx hb hd hv (k H locs ls hP hD hS hl)
theorem j_lconst (C : FC X Y l0 cc nL own rm mc ms ret) {z : Fin 2} {v : Int64} (hd : decode cc pc = .ok (.lconst z, 1)) (hv : Int64.ofNat (z : Nat) = v) (k : FJ X Y ad n S h (pc + 1) lv (.long v :: st)) : FJ X Y ad n S h pc lv (st) := by
  obtain ⟨⟨p, l, e, R⟩, ⟨s, m, args, below, meth, c⟩, ⟨cells, slots, Q⟩, ⟨nL', A⟩⟩ := X
  obtain ⟨G, cA⟩ := Y
  obtain ⟨hx, hb, hml, hown, hts, hK, hlk, hR, hce, hsl, hnl, hret, htr, hmc, hms, hA⟩ := C
  exact fun H locs ls hP hD hS hl => lv_lconst hx hb hd hv (k H locs ls hP hD hS hl)
theorem j_ldc2 (C : FC X Y l0 cc nL own rm mc ms ret) {ix : Nat} {v : Int64} (hd : decode cc pc = .ok (.ldc2_w ix, 3)) (hw : Cond.constantLong own ix v ∈ TW) (k : FJ X Y ad n S h (pc + 3) lv (.long v :: st)) : FJ X Y ad n S h pc lv (st) := by
  obtain ⟨⟨p, l, e, R⟩, ⟨s, m, args, below, meth, c⟩, ⟨cells, slots, Q⟩, ⟨nL', A⟩⟩ := X
  obtain ⟨G, cA⟩ := Y
  obtain ⟨hx, hb, hml, hown, hts, hK, hlk, hR, hce, hsl, hnl, hret, htr, hmc, hms, hA⟩ := C
  exact fun H locs ls hP hD hS hl => lv_ldc2 hx hb hown (hts _ hw) hd (k H locs ls hP hD hS hl)
theorem j_iload_n (C : FC X Y l0 cc nL own rm mc ms ret) {q : Fin 4} {i : Nat} {x : Int32} (hd : decode cc pc = .ok (.iload_n q, 1)) (hi : (q : Nat) = i) (hv : lx_get lv i = some (.int x)) (k : FJ X Y ad n S h (pc + 1) lv (.int x :: st)) : FJ X Y ad n S h pc lv (st) := by
  obtain ⟨⟨p, l, e, R⟩, ⟨s, m, args, below, meth, c⟩, ⟨cells, slots, Q⟩, ⟨nL', A⟩⟩ := X
  obtain ⟨G, cA⟩ := Y
  obtain ⟨hx, hb, hml, hown, hts, hK, hlk, hR, hce, hsl, hnl, hret, htr, hmc, hms, hA⟩ := C
  exact fun H locs ls hP hD hS hl => lv_iload_n hx hb hd hi (hl.2.2 _ (lx_get_mem hv)) (k H locs ls hP hD hS hl)
theorem j_iload (C : FC X Y l0 cc nL own rm mc ms ret) {i : Nat} {x : Int32} (hd : decode cc pc = .ok (.iload i, 2)) (hv : lx_get lv i = some (.int x)) (k : FJ X Y ad n S h (pc + 2) lv (.int x :: st)) : FJ X Y ad n S h pc lv (st) := by
  obtain ⟨⟨p, l, e, R⟩, ⟨s, m, args, below, meth, c⟩, ⟨cells, slots, Q⟩, ⟨nL', A⟩⟩ := X
  obtain ⟨G, cA⟩ := Y
  obtain ⟨hx, hb, hml, hown, hts, hK, hlk, hR, hce, hsl, hnl, hret, htr, hmc, hms, hA⟩ := C
  exact fun H locs ls hP hD hS hl => lv_iload hx hb hd (hl.2.2 _ (lx_get_mem hv)) (k H locs ls hP hD hS hl)
theorem j_lload_n (C : FC X Y l0 cc nL own rm mc ms ret) {q : Fin 4} {i : Nat} {x : Int64} (hd : decode cc pc = .ok (.lload_n q, 1)) (hi : (q : Nat) = i) (hv : lx_get lv i = some (.long x)) (k : FJ X Y ad n S h (pc + 1) lv (.long x :: st)) : FJ X Y ad n S h pc lv (st) := by
  obtain ⟨⟨p, l, e, R⟩, ⟨s, m, args, below, meth, c⟩, ⟨cells, slots, Q⟩, ⟨nL', A⟩⟩ := X
  obtain ⟨G, cA⟩ := Y
  obtain ⟨hx, hb, hml, hown, hts, hK, hlk, hR, hce, hsl, hnl, hret, htr, hmc, hms, hA⟩ := C
  exact fun H locs ls hP hD hS hl => lv_lload_n hx hb hd hi (hl.2.2 _ (lx_get_mem hv)) (k H locs ls hP hD hS hl)
theorem j_lload (C : FC X Y l0 cc nL own rm mc ms ret) {i : Nat} {x : Int64} (hd : decode cc pc = .ok (.lload i, 2)) (hv : lx_get lv i = some (.long x)) (k : FJ X Y ad n S h (pc + 2) lv (.long x :: st)) : FJ X Y ad n S h pc lv (st) := by
  obtain ⟨⟨p, l, e, R⟩, ⟨s, m, args, below, meth, c⟩, ⟨cells, slots, Q⟩, ⟨nL', A⟩⟩ := X
  obtain ⟨G, cA⟩ := Y
  obtain ⟨hx, hb, hml, hown, hts, hK, hlk, hR, hce, hsl, hnl, hret, htr, hmc, hms, hA⟩ := C
  exact fun H locs ls hP hD hS hl => lv_lload hx hb hd (hl.2.2 _ (lx_get_mem hv)) (k H locs ls hP hD hS hl)
theorem j_aload_n (C : FC X Y l0 cc nL own rm mc ms ret) {q : Fin 4} {i : Nat} {x : Nat} (hd : decode cc pc = .ok (.aload_n q, 1)) (hi : (q : Nat) = i) (hv : lx_get lv i = some (.ref x)) (k : FJ X Y ad n S h (pc + 1) lv (.ref x :: st)) : FJ X Y ad n S h pc lv (st) := by
  obtain ⟨⟨p, l, e, R⟩, ⟨s, m, args, below, meth, c⟩, ⟨cells, slots, Q⟩, ⟨nL', A⟩⟩ := X
  obtain ⟨G, cA⟩ := Y
  obtain ⟨hx, hb, hml, hown, hts, hK, hlk, hR, hce, hsl, hnl, hret, htr, hmc, hms, hA⟩ := C
  exact fun H locs ls hP hD hS hl => lv_aload_n hx hb hd hi (hl.2.2 _ (lx_get_mem hv)) (k H locs ls hP hD hS hl)
theorem j_aload (C : FC X Y l0 cc nL own rm mc ms ret) {i : Nat} {x : Nat} (hd : decode cc pc = .ok (.aload i, 2)) (hv : lx_get lv i = some (.ref x)) (k : FJ X Y ad n S h (pc + 2) lv (.ref x :: st)) : FJ X Y ad n S h pc lv (st) := by
  obtain ⟨⟨p, l, e, R⟩, ⟨s, m, args, below, meth, c⟩, ⟨cells, slots, Q⟩, ⟨nL', A⟩⟩ := X
  obtain ⟨G, cA⟩ := Y
  obtain ⟨hx, hb, hml, hown, hts, hK, hlk, hR, hce, hsl, hnl, hret, htr, hmc, hms, hA⟩ := C
  exact fun H locs ls hP hD hS hl => lv_aload hx hb hd (hl.2.2 _ (lx_get_mem hv)) (k H locs ls hP hD hS hl)
theorem j_istore_n (C : FC X Y l0 cc nL own rm mc ms ret) {q : Fin 4} {i : Nat} {x : Int32} {lv' : List (Nat × Value)} (hd : decode cc pc = .ok (.istore_n q, 1)) (hi : (q : Nat) = i) (hn : i < nL) (hv : lx_put lv i (.int x) = some lv') (k : FJ X Y ad n S h (pc + 1) lv' (st)) : FJ X Y ad n S h pc lv (.int x :: st) := by
  obtain ⟨⟨p, l, e, R⟩, ⟨s, m, args, below, meth, c⟩, ⟨cells, slots, Q⟩, ⟨nL', A⟩⟩ := X
  obtain ⟨G, cA⟩ := Y
  obtain ⟨hx, hb, hml, hown, hts, hK, hlk, hR, hce, hsl, hnl, hret, htr, hmc, hms, hA⟩ := C
  subst hnl
  exact fun H locs ls hP hD hS hl => lv_istore_n hx hb hd hi hl hn rfl (fun ls2 hl2 => k H locs ls2 hP hD hS (lx_has hv hl2))
theorem j_istore (C : FC X Y l0 cc nL own rm mc ms ret) {i : Nat} {x : Int32} {lv' : List (Nat × Value)} (hd : decode cc pc = .ok (.istore i, 2)) (hn : i < nL) (hv : lx_put lv i (.int x) = some lv') (k : FJ X Y ad n S h (pc + 2) lv' (st)) : FJ X Y ad n S h pc lv (.int x :: st) := by
  obtain ⟨⟨p, l, e, R⟩, ⟨s, m, args, below, meth, c⟩, ⟨cells, slots, Q⟩, ⟨nL', A⟩⟩ := X
  obtain ⟨G, cA⟩ := Y
  obtain ⟨hx, hb, hml, hown, hts, hK, hlk, hR, hce, hsl, hnl, hret, htr, hmc, hms, hA⟩ := C
  subst hnl
  exact fun H locs ls hP hD hS hl => lv_istore hx hb hd hl hn rfl (fun ls2 hl2 => k H locs ls2 hP hD hS (lx_has hv hl2))
theorem j_astore_n (C : FC X Y l0 cc nL own rm mc ms ret) {q : Fin 4} {i : Nat} {x : Nat} {lv' : List (Nat × Value)} (hd : decode cc pc = .ok (.astore_n q, 1)) (hi : (q : Nat) = i) (hn : i < nL) (hv : lx_put lv i (.ref x) = some lv') (k : FJ X Y ad n S h (pc + 1) lv' (st)) : FJ X Y ad n S h pc lv (.ref x :: st) := by
  obtain ⟨⟨p, l, e, R⟩, ⟨s, m, args, below, meth, c⟩, ⟨cells, slots, Q⟩, ⟨nL', A⟩⟩ := X
  obtain ⟨G, cA⟩ := Y
  obtain ⟨hx, hb, hml, hown, hts, hK, hlk, hR, hce, hsl, hnl, hret, htr, hmc, hms, hA⟩ := C
  subst hnl
  exact fun H locs ls hP hD hS hl => lv_astore_n hx hb hd hi hl hn rfl (fun ls2 hl2 => k H locs ls2 hP hD hS (lx_has hv hl2))
theorem j_astore (C : FC X Y l0 cc nL own rm mc ms ret) {i : Nat} {x : Nat} {lv' : List (Nat × Value)} (hd : decode cc pc = .ok (.astore i, 2)) (hn : i < nL) (hv : lx_put lv i (.ref x) = some lv') (k : FJ X Y ad n S h (pc + 2) lv' (st)) : FJ X Y ad n S h pc lv (.ref x :: st) := by
  obtain ⟨⟨p, l, e, R⟩, ⟨s, m, args, below, meth, c⟩, ⟨cells, slots, Q⟩, ⟨nL', A⟩⟩ := X
  obtain ⟨G, cA⟩ := Y
  obtain ⟨hx, hb, hml, hown, hts, hK, hlk, hR, hce, hsl, hnl, hret, htr, hmc, hms, hA⟩ := C
  subst hnl
  exact fun H locs ls hP hD hS hl => lv_astore hx hb hd hl hn rfl (fun ls2 hl2 => k H locs ls2 hP hD hS (lx_has hv hl2))
theorem j_iinc (C : FC X Y l0 cc nL own rm mc ms ret) {i : Nat} {z : Int} {x v : Int32} {lv' : List (Nat × Value)} (hd : decode cc pc = .ok (.iinc i z, 3)) (hg : lx_get lv i = some (.int x)) (he : x + Int32.ofInt z = v) (hn : i < nL) (hv : lx_put lv i (.int v) = some lv') (k : FJ X Y ad n S h (pc + 3) lv' (st)) : FJ X Y ad n S h pc lv (st) := by
  obtain ⟨⟨p, l, e, R⟩, ⟨s, m, args, below, meth, c⟩, ⟨cells, slots, Q⟩, ⟨nL', A⟩⟩ := X
  obtain ⟨G, cA⟩ := Y
  obtain ⟨hx, hb, hml, hown, hts, hK, hlk, hR, hce, hsl, hnl, hret, htr, hmc, hms, hA⟩ := C
  subst hnl
  obtain ⟨k0, hk0⟩ := List.getElem?_of_mem (lx_get_mem hg)
  exact fun H locs ls hP hD hS hl => lv_iinc hx hb hd hl hk0 he hn rfl (fun ls2 hl2 => k H locs ls2 hP hD hS (lx_has hv hl2))
theorem j_iadd (C : FC X Y l0 cc nL own rm mc ms ret) {x y : Int32} (hd : decode cc pc = .ok (.iadd, 1)) (k : FJ X Y ad n S h (pc + 1) lv (.int (x + y) :: st)) : FJ X Y ad n S h pc lv (.int y :: .int x :: st) := by
  obtain ⟨⟨p, l, e, R⟩, ⟨s, m, args, below, meth, c⟩, ⟨cells, slots, Q⟩, ⟨nL', A⟩⟩ := X
  obtain ⟨G, cA⟩ := Y
  obtain ⟨hx, hb, hml, hown, hts, hK, hlk, hR, hce, hsl, hnl, hret, htr, hmc, hms, hA⟩ := C
  exact fun H locs ls hP hD hS hl => lv_iadd hx hb hd (k H locs ls hP hD hS hl)
theorem j_isub (C : FC X Y l0 cc nL own rm mc ms ret) {x y : Int32} (hd : decode cc pc = .ok (.isub, 1)) (k : FJ X Y ad n S h (pc + 1) lv (.int (x - y) :: st)) : FJ X Y ad n S h pc lv (.int y :: .int x :: st) := by
  obtain ⟨⟨p, l, e, R⟩, ⟨s, m, args, below, meth, c⟩, ⟨cells, slots, Q⟩, ⟨nL', A⟩⟩ := X
  obtain ⟨G, cA⟩ := Y
  obtain ⟨hx, hb, hml, hown, hts, hK, hlk, hR, hce, hsl, hnl, hret, htr, hmc, hms, hA⟩ := C
  exact fun H locs ls hP hD hS hl => lv_isub hx hb hd (k H locs ls hP hD hS hl)
theorem j_imul (C : FC X Y l0 cc nL own rm mc ms ret) {x y : Int32} (hd : decode cc pc = .ok (.imul, 1)) (k : FJ X Y ad n S h (pc + 1) lv (.int (x * y) :: st)) : FJ X Y ad n S h pc lv (.int y :: .int x :: st) := by
  obtain ⟨⟨p, l, e, R⟩, ⟨s, m, args, below, meth, c⟩, ⟨cells, slots, Q⟩, ⟨nL', A⟩⟩ := X
  obtain ⟨G, cA⟩ := Y
  obtain ⟨hx, hb, hml, hown, hts, hK, hlk, hR, hce, hsl, hnl, hret, htr, hmc, hms, hA⟩ := C
  exact fun H locs ls hP hD hS hl => lv_imul hx hb hd (k H locs ls hP hD hS hl)
theorem j_iand (C : FC X Y l0 cc nL own rm mc ms ret) {x y : Int32} (hd : decode cc pc = .ok (.iand, 1)) (k : FJ X Y ad n S h (pc + 1) lv (.int (x &&& y) :: st)) : FJ X Y ad n S h pc lv (.int y :: .int x :: st) := by
  obtain ⟨⟨p, l, e, R⟩, ⟨s, m, args, below, meth, c⟩, ⟨cells, slots, Q⟩, ⟨nL', A⟩⟩ := X
  obtain ⟨G, cA⟩ := Y
  obtain ⟨hx, hb, hml, hown, hts, hK, hlk, hR, hce, hsl, hnl, hret, htr, hmc, hms, hA⟩ := C
  exact fun H locs ls hP hD hS hl => lv_iand hx hb hd (k H locs ls hP hD hS hl)
theorem j_ior (C : FC X Y l0 cc nL own rm mc ms ret) {x y : Int32} (hd : decode cc pc = .ok (.ior, 1)) (k : FJ X Y ad n S h (pc + 1) lv (.int (x ||| y) :: st)) : FJ X Y ad n S h pc lv (.int y :: .int x :: st) := by
  obtain ⟨⟨p, l, e, R⟩, ⟨s, m, args, below, meth, c⟩, ⟨cells, slots, Q⟩, ⟨nL', A⟩⟩ := X
  obtain ⟨G, cA⟩ := Y
  obtain ⟨hx, hb, hml, hown, hts, hK, hlk, hR, hce, hsl, hnl, hret, htr, hmc, hms, hA⟩ := C
  exact fun H locs ls hP hD hS hl => lv_ior hx hb hd (k H locs ls hP hD hS hl)
theorem j_irem (C : FC X Y l0 cc nL own rm mc ms ret) {x y : Int32} (hd : decode cc pc = .ok (.irem, 1)) (hne : ¬ y = 0) (k : FJ X Y ad n S h (pc + 1) lv (.int (x - x / y * y) :: st)) : FJ X Y ad n S h pc lv (.int y :: .int x :: st) := by
  obtain ⟨⟨p, l, e, R⟩, ⟨s, m, args, below, meth, c⟩, ⟨cells, slots, Q⟩, ⟨nL', A⟩⟩ := X
  obtain ⟨G, cA⟩ := Y
  obtain ⟨hx, hb, hml, hown, hts, hK, hlk, hR, hce, hsl, hnl, hret, htr, hmc, hms, hA⟩ := C
  exact fun H locs ls hP hD hS hl => lv_irem hx hb hd hne (k H locs ls hP hD hS hl)
theorem j_idiv (C : FC X Y l0 cc nL own rm mc ms ret) {x y : Int32} (hd : decode cc pc = .ok (.idiv, 1)) (hne : ¬ y = 0) (k : FJ X Y ad n S h (pc + 1) lv (.int (x / y) :: st)) : FJ X Y ad n S h pc lv (.int y :: .int x :: st) := by
  obtain ⟨⟨p, l, e, R⟩, ⟨s, m, args, below, meth, c⟩, ⟨cells, slots, Q⟩, ⟨nL', A⟩⟩ := X
  obtain ⟨G, cA⟩ := Y
  obtain ⟨hx, hb, hml, hown, hts, hK, hlk, hR, hce, hsl, hnl, hret, htr, hmc, hms, hA⟩ := C
  exact fun H locs ls hP hD hS hl => lv_idiv hx hb hd hne (k H locs ls hP hD hS hl)
theorem j_i2l (C : FC X Y l0 cc nL own rm mc ms ret) {x : Int32} (hd : decode cc pc = .ok (.i2l, 1)) (k : FJ X Y ad n S h (pc + 1) lv (.long x.toInt64 :: st)) : FJ X Y ad n S h pc lv (.int x :: st) := by
  obtain ⟨⟨p, l, e, R⟩, ⟨s, m, args, below, meth, c⟩, ⟨cells, slots, Q⟩, ⟨nL', A⟩⟩ := X
  obtain ⟨G, cA⟩ := Y
  obtain ⟨hx, hb, hml, hown, hts, hK, hlk, hR, hce, hsl, hnl, hret, htr, hmc, hms, hA⟩ := C
  exact fun H locs ls hP hD hS hl => lv_i2l hx hb hd rfl (k H locs ls hP hD hS hl)
theorem j_lcmp (C : FC X Y l0 cc nL own rm mc ms ret) {x y : Int64} (hd : decode cc pc = .ok (.lcmp, 1)) (k : FJ X Y ad n S h (pc + 1) lv (.int (lg_cmp x y) :: st)) : FJ X Y ad n S h pc lv (.long y :: .long x :: st) := by
  obtain ⟨⟨p, l, e, R⟩, ⟨s, m, args, below, meth, c⟩, ⟨cells, slots, Q⟩, ⟨nL', A⟩⟩ := X
  obtain ⟨G, cA⟩ := Y
  obtain ⟨hx, hb, hml, hown, hts, hK, hlk, hR, hce, hsl, hnl, hret, htr, hmc, hms, hA⟩ := C
  exact fun H locs ls hP hD hS hl => W.lcmp hx hb hd (k H locs ls hP hD hS hl)
theorem j_dup (C : FC X Y l0 cc nL own rm mc ms ret) {v : Value} (hd : decode cc pc = .ok (.dup, 1)) (hc : v.category = 1) (k : FJ X Y ad n S h (pc + 1) lv (v :: v :: st)) : FJ X Y ad n S h pc lv (v :: st) := by
  obtain ⟨⟨p, l, e, R⟩, ⟨s, m, args, below, meth, c⟩, ⟨cells, slots, Q⟩, ⟨nL', A⟩⟩ := X
  obtain ⟨G, cA⟩ := Y
  obtain ⟨hx, hb, hml, hown, hts, hK, hlk, hR, hce, hsl, hnl, hret, htr, hmc, hms, hA⟩ := C
  exact fun H locs ls hP hD hS hl => lv_dup hx hb hd hc (k H locs ls hP hD hS hl)
theorem j_pop (C : FC X Y l0 cc nL own rm mc ms ret) {v : Value} (hd : decode cc pc = .ok (.pop, 1)) (hc : v.category = 1) (k : FJ X Y ad n S h (pc + 1) lv (st)) : FJ X Y ad n S h pc lv (v :: st) := by
  obtain ⟨⟨p, l, e, R⟩, ⟨s, m, args, below, meth, c⟩, ⟨cells, slots, Q⟩, ⟨nL', A⟩⟩ := X
  obtain ⟨G, cA⟩ := Y
  obtain ⟨hx, hb, hml, hown, hts, hK, hlk, hR, hce, hsl, hnl, hret, htr, hmc, hms, hA⟩ := C
  exact fun H locs ls hP hD hS hl => lv_pop hx hb hd hc (k H locs ls hP hD hS hl)
theorem j_dup2 (C : FC X Y l0 cc nL own rm mc ms ret) {v w : Value} (hd : decode cc pc = .ok (.dup2, 1)) (hc : v.category = 1) (hc2 : w.category = 1) (k : FJ X Y ad n S h (pc + 1) lv (v :: w :: v :: w :: st)) : FJ X Y ad n S h pc lv (v :: w :: st) := by
  obtain ⟨⟨p, l, e, R⟩, ⟨s, m, args, below, meth, c⟩, ⟨cells, slots, Q⟩, ⟨nL', A⟩⟩ := X
  obtain ⟨G, cA⟩ := Y
  obtain ⟨hx, hb, hml, hown, hts, hK, hlk, hR, hce, hsl, hnl, hret, htr, hmc, hms, hA⟩ := C
  exact fun H locs ls hP hD hS hl => lv_dup2_11 hx hb hd hc hc2 (k H locs ls hP hD hS hl)
theorem j_dup_x1 (C : FC X Y l0 cc nL own rm mc ms ret) {v w : Value} (hd : decode cc pc = .ok (.dup_x1, 1)) (hc : v.category = 1) (hc2 : w.category = 1) (k : FJ X Y ad n S h (pc + 1) lv (v :: w :: v :: st)) : FJ X Y ad n S h pc lv (v :: w :: st) := by
  obtain ⟨⟨p, l, e, R⟩, ⟨s, m, args, below, meth, c⟩, ⟨cells, slots, Q⟩, ⟨nL', A⟩⟩ := X
  obtain ⟨G, cA⟩ := Y
  obtain ⟨hx, hb, hml, hown, hts, hK, hlk, hR, hce, hsl, hnl, hret, htr, hmc, hms, hA⟩ := C
  exact fun H locs ls hP hD hS hl => lv_dup_x1 hx hb hd hc hc2 (k H locs ls hP hD hS hl)
theorem j_if_eq (C : FC X Y l0 cc nL own rm mc ms ret) {x : Int32} {off : Int} {tgt : Nat} (hd : decode cc pc = .ok (.ifCond .eq off, 3)) (ht : (pc : Int) + off = (tgt : Int)) (kt : x = 0 → FJ X Y ad n S h tgt lv (st)) (kf : ¬ x = 0 → FJ X Y ad n S h (pc + 3) lv (st)) : FJ X Y ad n S h pc lv (.int x :: st) := by
  obtain ⟨⟨p, l, e, R⟩, ⟨s, m, args, below, meth, c⟩, ⟨cells, slots, Q⟩, ⟨nL', A⟩⟩ := X
  obtain ⟨G, cA⟩ := Y
  obtain ⟨hx, hb, hml, hown, hts, hK, hlk, hR, hce, hsl, hnl, hret, htr, hmc, hms, hA⟩ := C
  exact fun H locs ls hP hD hS hl => lv_if_eq hx hb hd ht (fun q => kt q H locs ls hP hD hS hl) (fun q => kf q H locs ls hP hD hS hl)
theorem j_icmp_eq (C : FC X Y l0 cc nL own rm mc ms ret) {x y : Int32} {off : Int} {tgt : Nat} (hd : decode cc pc = .ok (.if_icmp .eq off, 3)) (ht : (pc : Int) + off = (tgt : Int)) (kt : x = y → FJ X Y ad n S h tgt lv (st)) (kf : ¬ x = y → FJ X Y ad n S h (pc + 3) lv (st)) : FJ X Y ad n S h pc lv (.int y :: .int x :: st) := by
  obtain ⟨⟨p, l, e, R⟩, ⟨s, m, args, below, meth, c⟩, ⟨cells, slots, Q⟩, ⟨nL', A⟩⟩ := X
  obtain ⟨G, cA⟩ := Y
  obtain ⟨hx, hb, hml, hown, hts, hK, hlk, hR, hce, hsl, hnl, hret, htr, hmc, hms, hA⟩ := C
  exact fun H locs ls hP hD hS hl => lv_icmp_eq hx hb hd ht (fun q => kt q H locs ls hP hD hS hl) (fun q => kf q H locs ls hP hD hS hl)
theorem j_if_ne (C : FC X Y l0 cc nL own rm mc ms ret) {x : Int32} {off : Int} {tgt : Nat} (hd : decode cc pc = .ok (.ifCond .ne off, 3)) (ht : (pc : Int) + off = (tgt : Int)) (kt : ¬ x = 0 → FJ X Y ad n S h tgt lv (st)) (kf : x = 0 → FJ X Y ad n S h (pc + 3) lv (st)) : FJ X Y ad n S h pc lv (.int x :: st) := by
  obtain ⟨⟨p, l, e, R⟩, ⟨s, m, args, below, meth, c⟩, ⟨cells, slots, Q⟩, ⟨nL', A⟩⟩ := X
  obtain ⟨G, cA⟩ := Y
  obtain ⟨hx, hb, hml, hown, hts, hK, hlk, hR, hce, hsl, hnl, hret, htr, hmc, hms, hA⟩ := C
  exact fun H locs ls hP hD hS hl => lv_if_ne hx hb hd ht (fun q => kt q H locs ls hP hD hS hl) (fun q => kf q H locs ls hP hD hS hl)
theorem j_icmp_ne (C : FC X Y l0 cc nL own rm mc ms ret) {x y : Int32} {off : Int} {tgt : Nat} (hd : decode cc pc = .ok (.if_icmp .ne off, 3)) (ht : (pc : Int) + off = (tgt : Int)) (kt : ¬ x = y → FJ X Y ad n S h tgt lv (st)) (kf : x = y → FJ X Y ad n S h (pc + 3) lv (st)) : FJ X Y ad n S h pc lv (.int y :: .int x :: st) := by
  obtain ⟨⟨p, l, e, R⟩, ⟨s, m, args, below, meth, c⟩, ⟨cells, slots, Q⟩, ⟨nL', A⟩⟩ := X
  obtain ⟨G, cA⟩ := Y
  obtain ⟨hx, hb, hml, hown, hts, hK, hlk, hR, hce, hsl, hnl, hret, htr, hmc, hms, hA⟩ := C
  exact fun H locs ls hP hD hS hl => lv_icmp_ne hx hb hd ht (fun q => kt q H locs ls hP hD hS hl) (fun q => kf q H locs ls hP hD hS hl)
theorem j_if_lt (C : FC X Y l0 cc nL own rm mc ms ret) {x : Int32} {off : Int} {tgt : Nat} (hd : decode cc pc = .ok (.ifCond .lt off, 3)) (ht : (pc : Int) + off = (tgt : Int)) (kt : x < 0 → FJ X Y ad n S h tgt lv (st)) (kf : ¬ x < 0 → FJ X Y ad n S h (pc + 3) lv (st)) : FJ X Y ad n S h pc lv (.int x :: st) := by
  obtain ⟨⟨p, l, e, R⟩, ⟨s, m, args, below, meth, c⟩, ⟨cells, slots, Q⟩, ⟨nL', A⟩⟩ := X
  obtain ⟨G, cA⟩ := Y
  obtain ⟨hx, hb, hml, hown, hts, hK, hlk, hR, hce, hsl, hnl, hret, htr, hmc, hms, hA⟩ := C
  exact fun H locs ls hP hD hS hl => lv_if_lt hx hb hd ht (fun q => kt q H locs ls hP hD hS hl) (fun q => kf q H locs ls hP hD hS hl)
theorem j_icmp_lt (C : FC X Y l0 cc nL own rm mc ms ret) {x y : Int32} {off : Int} {tgt : Nat} (hd : decode cc pc = .ok (.if_icmp .lt off, 3)) (ht : (pc : Int) + off = (tgt : Int)) (kt : x < y → FJ X Y ad n S h tgt lv (st)) (kf : ¬ x < y → FJ X Y ad n S h (pc + 3) lv (st)) : FJ X Y ad n S h pc lv (.int y :: .int x :: st) := by
  obtain ⟨⟨p, l, e, R⟩, ⟨s, m, args, below, meth, c⟩, ⟨cells, slots, Q⟩, ⟨nL', A⟩⟩ := X
  obtain ⟨G, cA⟩ := Y
  obtain ⟨hx, hb, hml, hown, hts, hK, hlk, hR, hce, hsl, hnl, hret, htr, hmc, hms, hA⟩ := C
  exact fun H locs ls hP hD hS hl => lv_icmp_lt hx hb hd ht (fun q => kt q H locs ls hP hD hS hl) (fun q => kf q H locs ls hP hD hS hl)
theorem j_if_ge (C : FC X Y l0 cc nL own rm mc ms ret) {x : Int32} {off : Int} {tgt : Nat} (hd : decode cc pc = .ok (.ifCond .ge off, 3)) (ht : (pc : Int) + off = (tgt : Int)) (kt : 0 ≤ x → FJ X Y ad n S h tgt lv (st)) (kf : ¬ 0 ≤ x → FJ X Y ad n S h (pc + 3) lv (st)) : FJ X Y ad n S h pc lv (.int x :: st) := by
  obtain ⟨⟨p, l, e, R⟩, ⟨s, m, args, below, meth, c⟩, ⟨cells, slots, Q⟩, ⟨nL', A⟩⟩ := X
  obtain ⟨G, cA⟩ := Y
  obtain ⟨hx, hb, hml, hown, hts, hK, hlk, hR, hce, hsl, hnl, hret, htr, hmc, hms, hA⟩ := C
  exact fun H locs ls hP hD hS hl => lv_if_ge hx hb hd ht (fun q => kt q H locs ls hP hD hS hl) (fun q => kf q H locs ls hP hD hS hl)
theorem j_icmp_ge (C : FC X Y l0 cc nL own rm mc ms ret) {x y : Int32} {off : Int} {tgt : Nat} (hd : decode cc pc = .ok (.if_icmp .ge off, 3)) (ht : (pc : Int) + off = (tgt : Int)) (kt : y ≤ x → FJ X Y ad n S h tgt lv (st)) (kf : ¬ y ≤ x → FJ X Y ad n S h (pc + 3) lv (st)) : FJ X Y ad n S h pc lv (.int y :: .int x :: st) := by
  obtain ⟨⟨p, l, e, R⟩, ⟨s, m, args, below, meth, c⟩, ⟨cells, slots, Q⟩, ⟨nL', A⟩⟩ := X
  obtain ⟨G, cA⟩ := Y
  obtain ⟨hx, hb, hml, hown, hts, hK, hlk, hR, hce, hsl, hnl, hret, htr, hmc, hms, hA⟩ := C
  exact fun H locs ls hP hD hS hl => lv_icmp_ge hx hb hd ht (fun q => kt q H locs ls hP hD hS hl) (fun q => kf q H locs ls hP hD hS hl)
theorem j_if_gt (C : FC X Y l0 cc nL own rm mc ms ret) {x : Int32} {off : Int} {tgt : Nat} (hd : decode cc pc = .ok (.ifCond .gt off, 3)) (ht : (pc : Int) + off = (tgt : Int)) (kt : 0 < x → FJ X Y ad n S h tgt lv (st)) (kf : ¬ 0 < x → FJ X Y ad n S h (pc + 3) lv (st)) : FJ X Y ad n S h pc lv (.int x :: st) := by
  obtain ⟨⟨p, l, e, R⟩, ⟨s, m, args, below, meth, c⟩, ⟨cells, slots, Q⟩, ⟨nL', A⟩⟩ := X
  obtain ⟨G, cA⟩ := Y
  obtain ⟨hx, hb, hml, hown, hts, hK, hlk, hR, hce, hsl, hnl, hret, htr, hmc, hms, hA⟩ := C
  exact fun H locs ls hP hD hS hl => lv_if_gt hx hb hd ht (fun q => kt q H locs ls hP hD hS hl) (fun q => kf q H locs ls hP hD hS hl)
theorem j_icmp_gt (C : FC X Y l0 cc nL own rm mc ms ret) {x y : Int32} {off : Int} {tgt : Nat} (hd : decode cc pc = .ok (.if_icmp .gt off, 3)) (ht : (pc : Int) + off = (tgt : Int)) (kt : y < x → FJ X Y ad n S h tgt lv (st)) (kf : ¬ y < x → FJ X Y ad n S h (pc + 3) lv (st)) : FJ X Y ad n S h pc lv (.int y :: .int x :: st) := by
  obtain ⟨⟨p, l, e, R⟩, ⟨s, m, args, below, meth, c⟩, ⟨cells, slots, Q⟩, ⟨nL', A⟩⟩ := X
  obtain ⟨G, cA⟩ := Y
  obtain ⟨hx, hb, hml, hown, hts, hK, hlk, hR, hce, hsl, hnl, hret, htr, hmc, hms, hA⟩ := C
  exact fun H locs ls hP hD hS hl => lv_icmp_gt hx hb hd ht (fun q => kt q H locs ls hP hD hS hl) (fun q => kf q H locs ls hP hD hS hl)
theorem j_if_le (C : FC X Y l0 cc nL own rm mc ms ret) {x : Int32} {off : Int} {tgt : Nat} (hd : decode cc pc = .ok (.ifCond .le off, 3)) (ht : (pc : Int) + off = (tgt : Int)) (kt : x ≤ 0 → FJ X Y ad n S h tgt lv (st)) (kf : ¬ x ≤ 0 → FJ X Y ad n S h (pc + 3) lv (st)) : FJ X Y ad n S h pc lv (.int x :: st) := by
  obtain ⟨⟨p, l, e, R⟩, ⟨s, m, args, below, meth, c⟩, ⟨cells, slots, Q⟩, ⟨nL', A⟩⟩ := X
  obtain ⟨G, cA⟩ := Y
  obtain ⟨hx, hb, hml, hown, hts, hK, hlk, hR, hce, hsl, hnl, hret, htr, hmc, hms, hA⟩ := C
  exact fun H locs ls hP hD hS hl => lv_if_le hx hb hd ht (fun q => kt q H locs ls hP hD hS hl) (fun q => kf q H locs ls hP hD hS hl)
theorem j_icmp_le (C : FC X Y l0 cc nL own rm mc ms ret) {x y : Int32} {off : Int} {tgt : Nat} (hd : decode cc pc = .ok (.if_icmp .le off, 3)) (ht : (pc : Int) + off = (tgt : Int)) (kt : x ≤ y → FJ X Y ad n S h tgt lv (st)) (kf : ¬ x ≤ y → FJ X Y ad n S h (pc + 3) lv (st)) : FJ X Y ad n S h pc lv (.int y :: .int x :: st) := by
  obtain ⟨⟨p, l, e, R⟩, ⟨s, m, args, below, meth, c⟩, ⟨cells, slots, Q⟩, ⟨nL', A⟩⟩ := X
  obtain ⟨G, cA⟩ := Y
  obtain ⟨hx, hb, hml, hown, hts, hK, hlk, hR, hce, hsl, hnl, hret, htr, hmc, hms, hA⟩ := C
  exact fun H locs ls hP hD hS hl => lv_icmp_le hx hb hd ht (fun q => kt q H locs ls hP hD hS hl) (fun q => kf q H locs ls hP hD hS hl)
theorem j_goto (C : FC X Y l0 cc nL own rm mc ms ret) {off : Int} {tgt : Nat} (hd : decode cc pc = .ok (.goto off, 3)) (ht : (pc : Int) + off = (tgt : Int)) (k : FJ X Y ad n S h tgt lv (st)) : FJ X Y ad n S h pc lv (st) := by
  obtain ⟨⟨p, l, e, R⟩, ⟨s, m, args, below, meth, c⟩, ⟨cells, slots, Q⟩, ⟨nL', A⟩⟩ := X
  obtain ⟨G, cA⟩ := Y
  obtain ⟨hx, hb, hml, hown, hts, hK, hlk, hR, hce, hsl, hnl, hret, htr, hmc, hms, hA⟩ := C
  exact fun H locs ls hP hD hS hl => lv_goto hx hb hd ht (k H locs ls hP hD hS hl)
theorem j_tableIn (C : FC X Y l0 cc nL own rm mc ms ret) {dflt lo hi : Int} {offs : Array Int} {len : Nat} {x : Int32} {off : Int} {tgt : Nat} (hd : decode cc pc = .ok (.tableswitch dflt lo hi offs, len)) (h1 : ¬ x.toInt < lo) (h2 : ¬ hi < x.toInt) (ho : offs[(x.toInt - lo).toNat]? = some off) (ht : (pc : Int) + off = (tgt : Int)) (k : FJ X Y ad n S h tgt lv (st)) : FJ X Y ad n S h pc lv (.int x :: st) := by
  obtain ⟨⟨p, l, e, R⟩, ⟨s, m, args, below, meth, c⟩, ⟨cells, slots, Q⟩, ⟨nL', A⟩⟩ := X
  obtain ⟨G, cA⟩ := Y
  obtain ⟨hx, hb, hml, hown, hts, hK, hlk, hR, hce, hsl, hnl, hret, htr, hmc, hms, hA⟩ := C
  exact fun H locs ls hP hD hS hl => lv_tableIn hx hb hd h1 h2 ho ht (k H locs ls hP hD hS hl)
theorem j_tableOut (C : FC X Y l0 cc nL own rm mc ms ret) {dflt lo hi : Int} {offs : Array Int} {len : Nat} {x : Int32} {tgt : Nat} (hd : decode cc pc = .ok (.tableswitch dflt lo hi offs, len)) (h1 : x.toInt < lo ∨ hi < x.toInt) (ht : (pc : Int) + dflt = (tgt : Int)) (k : FJ X Y ad n S h tgt lv (st)) : FJ X Y ad n S h pc lv (.int x :: st) := by
  obtain ⟨⟨p, l, e, R⟩, ⟨s, m, args, below, meth, c⟩, ⟨cells, slots, Q⟩, ⟨nL', A⟩⟩ := X
  obtain ⟨G, cA⟩ := Y
  obtain ⟨hx, hb, hml, hown, hts, hK, hlk, hR, hce, hsl, hnl, hret, htr, hmc, hms, hA⟩ := C
  exact fun H locs ls hP hD hS hl => lv_tableOut hx hb hd h1 ht (k H locs ls hP hD hS hl)
theorem j_lookup (C : FC X Y l0 cc nL own rm mc ms ret) {dflt : Int} {ps : Array (Int × Int)} {len : Nat} {x : Int32} {off : Int} {tgt : Nat} (hd : decode cc pc = .ok (.lookupswitch dflt ps, len)) (hp : (ps.toList.zip (ps.toList.drop 1)).all (fun (a, next) => a.1 < next.1) = true) (ho : Op.lookupswitch.offset ps.toList dflt x.toInt = off) (ht : (pc : Int) + off = (tgt : Int)) (k : FJ X Y ad n S h tgt lv (st)) : FJ X Y ad n S h pc lv (.int x :: st) := by
  obtain ⟨⟨p, l, e, R⟩, ⟨s, m, args, below, meth, c⟩, ⟨cells, slots, Q⟩, ⟨nL', A⟩⟩ := X
  obtain ⟨G, cA⟩ := Y
  obtain ⟨hx, hb, hml, hown, hts, hK, hlk, hR, hce, hsl, hnl, hret, htr, hmc, hms, hA⟩ := C
  exact fun H locs ls hP hD hS hl => lv_lookup hx hb hd hp ho ht (k H locs ls hP hD hS hl)
theorem j_get (C : FC X Y l0 cc nL own rm mc ms ret) {ix k ci nf j : Nat} {rf : Nat → Option (Option Nat)} {Cn ref : String} {T : u_T} {v : Value} (hd : decode cc pc = .ok (.getfield ix, 3)) (hk : k < n) (hS0 : S k = .inr (.inl (ci, nf, rf))) (hc : vwCl[ci]? = some (Cn, T, nf)) (hin : ∀ w ∈ u_ws Cn T nf, w ∈ TW) (hj : j < nf) (hlink : Cond.fieldLink own ix ref (T j).2.1 (T j).2.2.1 ∈ TW) (hsame : (T j).1 = ref) (hv : ph_f ad rf (h k) j = v) (kk : FJ X Y ad n S h (pc + 3) lv (v :: st)) : FJ X Y ad n S h pc lv (.ref (ad k) :: st) := by
  obtain ⟨⟨p, l, e, R⟩, ⟨s, m, args, below, meth, c⟩, ⟨cells, slots, Q⟩, ⟨nL', A⟩⟩ := X
  obtain ⟨G, cA⟩ := Y
  obtain ⟨hx, hb, hml, hown, hts, hK, hlk, hR, hce, hsl, hnl, hret, htr, hmc, hms, hA⟩ := C
  subst hv
  exact fun H locs ls hP hD hS hl => va_get (D := (G)) hx hb hts hin hown hK hP k (by rw [ph_at hk, hS0]; rfl) hc j hj (hts _ hlink) (fun _ q => by rw [← hsame]; exact q) (by rw [List.getElem?_map, List.getElem?_range hj]; rfl) hd (kk H locs ls hP hD hS hl)
theorem j_put (C : FC X Y l0 cc nL own rm mc ms ret) {ix k ci nf j : Nat} {rf : Nat → Option (Option Nat)} {Cn ref : String} {T : u_T} {ty0 : Nat → FieldType} {ty : FieldType} {v : Int32} (hd : decode cc pc = .ok (.putfield ix, 3)) (hk : k < n) (hS0 : S k = .inr (.inl (ci, nf, rf))) (hc : vwCl[ci]? = some (Cn, T, nf)) (hin : ∀ w ∈ u_ws Cn T nf, w ∈ TW) (hty : ∀ k, k < nf → parseFieldDescriptor (T k).2.2.1 = some (ty0 k)) (hnm : ∀ a, a < nf → ∀ b, b < nf → a ≠ b → (T a).2.1 ≠ (T b).2.1) (hj : j < nf) (hlink : Cond.fieldLink own ix ref (T j).2.1 (T j).2.2.1 ∈ TW) (hsame : (T j).1 = ref) (hfin : (T j).2.2.2 = false) (hrf : rf j = none) (hpt : parseFieldDescriptor (T j).2.2.1 = some ty) (hnar : narrow ty (.int v) = .int v) (hfit : fits ty (.int v) = true) (kk : FJ X Y ad n S (hs h k j v) (pc + 3) lv (st)) : FJ X Y ad n S h pc lv (.int v :: .ref (ad k) :: st) := by
  obtain ⟨⟨p, l, e, R⟩, ⟨s, m, args, below, meth, c⟩, ⟨cells, slots, Q⟩, ⟨nL', A⟩⟩ := X
  obtain ⟨G, cA⟩ := Y
  obtain ⟨hx, hb, hml, hown, hts, hK, hlk, hR, hce, hsl, hnl, hret, htr, hmc, hms, hA⟩ := C
  refine fun H locs ls hP hD hS hl => va_put (D := (G)) hx hb hts hin ty0 hty hnm hown hK hP hD hS k (by rw [ph_at hk, hS0]; rfl) hc j hj (hts _ hlink) (fun _ q => by rw [← hsame]; exact q) hfin hpt hnar hfit (by simpa using hj) hd (fun H1 locs1 hP1 hD1 hS1 => ?_)
  have e : (ph_w n cA ad S h).set k (ad k, .inr (ci, ((List.range nf).map (ph_f ad rf (h k))).set j (.int v))) = ph_w n cA ad S (va_up h k (upd (h k) j v)) := ph_seth (by rw [hS0, ph_fset hrf]; rfl)
  rw [e] at hP1 hD1
  exact kk H1 locs1 ls hP1 hD1 hS1 hl
theorem j_iald (C : FC X Y l0 cc nL own rm mc ms ret) {k len : Nat} {i v : Int32} (hd : decode cc pc = .ok (.iaload, 1)) (hk : k < n) (hS0 : S k = .inl (0, len)) (hi : vp_in i len) (hv : h k i.toNatClampNeg = v) (kk : FJ X Y ad n S h (pc + 1) lv (.int v :: st)) : FJ X Y ad n S h pc lv (.int i :: .ref (ad k) :: st) := by
  subst hv
  obtain ⟨⟨p, l, e, R⟩, ⟨s, m, args, below, meth, c⟩, ⟨cells, slots, Q⟩, ⟨nL', A⟩⟩ := X
  obtain ⟨G, cA⟩ := Y
  obtain ⟨hx, hb, hml, hown, hts, hK, hlk, hR, hce, hsl, hnl, hret, htr, hmc, hms, hA⟩ := C
  exact fun H locs ls hP hD hS hl => va_iald hx hb hK hP k 0 (by rw [ph_at hk, hS0]; rfl) rfl hi hd (kk H locs ls hP hD hS hl)
theorem j_zald (C : FC X Y l0 cc nL own rm mc ms ret) {k len : Nat} {i v : Int32} (hd : decode cc pc = .ok (.baload, 1)) (hk : k < n) (hS0 : S k = .inl (1, len)) (hi : vp_in i len) (hv : h k i.toNatClampNeg = v) (kk : FJ X Y ad n S h (pc + 1) lv (.int v :: st)) : FJ X Y ad n S h pc lv (.int i :: .ref (ad k) :: st) := by
  subst hv
  obtain ⟨⟨p, l, e, R⟩, ⟨s, m, args, below, meth, c⟩, ⟨cells, slots, Q⟩, ⟨nL', A⟩⟩ := X
  obtain ⟨G, cA⟩ := Y
  obtain ⟨hx, hb, hml, hown, hts, hK, hlk, hR, hce, hsl, hnl, hret, htr, hmc, hms, hA⟩ := C
  exact fun H locs ls hP hD hS hl => va_zald hx hb hK hP k 1 (by rw [ph_at hk, hS0]; rfl) rfl hi hd (kk H locs ls hP hD hS hl)
theorem j_bald (C : FC X Y l0 cc nL own rm mc ms ret) {k len : Nat} {i v : Int32} (hd : decode cc pc = .ok (.baload, 1)) (hk : k < n) (hS0 : S k = .inl (2, len)) (hi : vp_in i len) (hv : h k i.toNatClampNeg = v) (kk : FJ X Y ad n S h (pc + 1) lv (.int v :: st)) : FJ X Y ad n S h pc lv (.int i :: .ref (ad k) :: st) := by
  subst hv
  obtain ⟨⟨p, l, e, R⟩, ⟨s, m, args, below, meth, c⟩, ⟨cells, slots, Q⟩, ⟨nL', A⟩⟩ := X
  obtain ⟨G, cA⟩ := Y
  obtain ⟨hx, hb, hml, hown, hts, hK, hlk, hR, hce, hsl, hnl, hret, htr, hmc, hms, hA⟩ := C
  exact fun H locs ls hP hD hS hl => va_bald hx hb hK hP k 2 (by rw [ph_at hk, hS0]; rfl) rfl hi hd (kk H locs ls hP hD hS hl)
theorem j_iast (C : FC X Y l0 cc nL own rm mc ms ret) {k len : Nat} {i x : Int32} (hd : decode cc pc = .ok (.iastore, 1)) (hk : k < n) (hS0 : S k = .inl (0, len)) (hi : vp_in i len) (kk : FJ X Y ad n S (hs h k i.toNatClampNeg x) (pc + 1) lv (st)) : FJ X Y ad n S h pc lv (.int x :: .int i :: .ref (ad k) :: st) := by
  obtain ⟨⟨p, l, e, R⟩, ⟨s, m, args, below, meth, c⟩, ⟨cells, slots, Q⟩, ⟨nL', A⟩⟩ := X
  obtain ⟨G, cA⟩ := Y
  obtain ⟨hx, hb, hml, hown, hts, hK, hlk, hR, hce, hsl, hnl, hret, htr, hmc, hms, hA⟩ := C
  refine fun H locs ls hP hD hS hl => va_iast hx hb hK hP hD hS k 0 (by rw [ph_at hk, hS0]; rfl) rfl hi hd (fun H1 locs1 hP1 hD1 hS1 => ?_)
  have e : (ph_w n cA ad S h).set k (ad k, .inl (cA 0, len, .inl (upd (h k) i.toNatClampNeg x))) = ph_w n cA ad S (va_up h k (upd (h k) i.toNatClampNeg x)) := ph_seth (by rw [hS0]; rfl)
  rw [e] at hP1 hD1
  exact kk H1 locs1 ls hP1 hD1 hS1 hl
theorem j_zast (C : FC X Y l0 cc nL own rm mc ms ret) {k len : Nat} {i x : Int32} (hd : decode cc pc = .ok (.bastore, 1)) (hk : k < n) (hS0 : S k = .inl (1, len)) (hi : vp_in i len) (kk : FJ X Y ad n S (hs h k i.toNatClampNeg (vp_nar .boolean x)) (pc + 1) lv (st)) : FJ X Y ad n S h pc lv (.int x :: .int i :: .ref (ad k) :: st) := by
  obtain ⟨⟨p, l, e, R⟩, ⟨s, m, args, below, meth, c⟩, ⟨cells, slots, Q⟩, ⟨nL', A⟩⟩ := X
  obtain ⟨G, cA⟩ := Y
  obtain ⟨hx, hb, hml, hown, hts, hK, hlk, hR, hce, hsl, hnl, hret, htr, hmc, hms, hA⟩ := C
  refine fun H locs ls hP hD hS hl => va_zast hx hb hK hP hD hS k 1 (by rw [ph_at hk, hS0]; rfl) rfl hi hd (fun H1 locs1 hP1 hD1 hS1 => ?_)
  have e : (ph_w n cA ad S h).set k (ad k, .inl (cA 1, len, .inl (upd (h k) i.toNatClampNeg (vp_nar .boolean x)))) = ph_w n cA ad S (va_up h k (upd (h k) i.toNatClampNeg (vp_nar .boolean x))) := ph_seth (by rw [hS0]; rfl)
  rw [e] at hP1 hD1
  exact kk H1 locs1 ls hP1 hD1 hS1 hl
theorem j_bast (C : FC X Y l0 cc nL own rm mc ms ret) {k len : Nat} {i x : Int32} (hd : decode cc pc = .ok (.bastore, 1)) (hk : k < n) (hS0 : S k = .inl (2, len)) (hi : vp_in i len) (kk : FJ X Y ad n S (hs h k i.toNatClampNeg (vp_nar .byte x)) (pc + 1) lv (st)) : FJ X Y ad n S h pc lv (.int x :: .int i :: .ref (ad k) :: st) := by
  obtain ⟨⟨p, l, e, R⟩, ⟨s, m, args, below, meth, c⟩, ⟨cells, slots, Q⟩, ⟨nL', A⟩⟩ := X
  obtain ⟨G, cA⟩ := Y
  obtain ⟨hx, hb, hml, hown, hts, hK, hlk, hR, hce, hsl, hnl, hret, htr, hmc, hms, hA⟩ := C
  refine fun H locs ls hP hD hS hl => va_bast hx hb hK hP hD hS k 2 (by rw [ph_at hk, hS0]; rfl) rfl hi hd (fun H1 locs1 hP1 hD1 hS1 => ?_)
  have e : (ph_w n cA ad S h).set k (ad k, .inl (cA 2, len, .inl (upd (h k) i.toNatClampNeg (vp_nar .byte x)))) = ph_w n cA ad S (va_up h k (upd (h k) i.toNatClampNeg (vp_nar .byte x))) := ph_seth (by rw [hS0]; rfl)
  rw [e] at hP1 hD1
  exact kk H1 locs1 ls hP1 hD1 hS1 hl
theorem j_alen (C : FC X Y l0 cc nL own rm mc ms ret) {k t len : Nat} {v : Int32} (hd : decode cc pc = .ok (.arraylength, 1)) (hk : k < n) (hS0 : S k = .inl (t, len)) {ty : FieldType} (ht : (tyl Y.2)[t]? = some (Y.2 t, ty)) (hv : Int32.ofNat len = v) (kk : FJ X Y ad n S h (pc + 1) lv (.int v :: st)) : FJ X Y ad n S h pc lv (.ref (ad k) :: st) := by
  obtain ⟨⟨p, l, e, R⟩, ⟨s, m, args, below, meth, c⟩, ⟨cells, slots, Q⟩, ⟨nL', A⟩⟩ := X
  obtain ⟨G, cA⟩ := Y
  obtain ⟨hx, hb, hml, hown, hts, hK, hlk, hR, hce, hsl, hnl, hret, htr, hmc, hms, hA⟩ := C
  exact fun H locs ls hP hD hS hl => va_alen (x := (len, .inl (h k))) hx hb hK hP k t (by rw [ph_at hk, hS0]; rfl) ht hv hd (kk H locs ls hP hD hS hl)
end FJR
