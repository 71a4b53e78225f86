/-! THE LAW'S FRAME: two worlds side by side, and the row 'out' -/
def R_law : String := "ReplayBoxLaw"
def lw_P (b : Addr) (xs : List Int32) (args : Array Value) (s : State) : Prop := args = #[.ref b] ∧ s.IntsAt b xs ∧ xs.length ≤ 3072 ∧ (Jvm.Cond.and given_1 narrow_1).before args s = true
def lw_Q (_ : Array Value) (s : State) (o : Outcome) (t : State) : Prop := o = .returned (some (.int 1)) ∧ Framed s o t [] 601024 7293034
def lw_Z (below : List Frame) (a : Array Value) (s : State) : State → Prop := fun t => ∃ o, t.status = .running ∧ Ended t below o ∧ lw_Q a s o t
abbrev lj_X : Type := (Program × Launch × Env) × (State × MethodId × List Frame × Method × Code) × (Nat × Nat × (Nat → Int32))
abbrev lj_W : Type := gU × ((Nat → Nat) × ph_H) × (Nat × (Nat → Int64))
/-- the class's world, the reference's, the row 'out': apart from each other and from what was there -/
def LWo (Y : fj_Y) (cL : ClassId) (s : State) (w : lj_W) (H : Heap) : Prop :=
  va_P Y.1 vwCl (ph_w w.1.1 Y.2 w.1.2.1 w.1.2.2.1 w.1.2.2.2) H ∧ va_P Y.1 vwCl (ph_w 50 Y.2 w.2.1.1 SM w.2.1.2) H ∧ va_P Y.1 vwCl [(w.2.2.1, .inl (cL, 1, .inr (.inl w.2.2.2)))] H ∧
  (∀ i j, i < w.1.1 → j < w.1.1 → w.1.2.1 i = w.1.2.1 j → i = j) ∧ (∀ i j, i < 50 → j < 50 → w.2.1.1 i = w.2.1.1 j → i = j) ∧ (∀ i, i < w.1.1 → s.heap.size ≤ w.1.2.1 i) ∧ (∀ j, j < 50 → s.heap.size ≤ w.2.1.1 j) ∧ s.heap.size ≤ w.2.2.1 ∧
  (∀ i j, i < w.1.1 → j < 50 → w.1.2.1 i ≠ w.2.1.1 j) ∧ (∀ i, i < w.1.1 → w.1.2.1 i ≠ w.2.2.1) ∧ (∀ j, j < 50 → w.2.1.1 j ≠ w.2.2.1)
def LJ (X : lj_X) (Y : fj_Y) (cL : ClassId) (w : lj_W) (cells slots : Nat) (pc : Nat) (lv : List (Nat × Value)) (st : List Value) : Prop := match X with
  | ((p, l, e), (s, m, below, meth, c), (b, _, _)) => ∀ (H : Heap) (locs : List Loc) (ls : Array Slot), LWo Y cL s w H → va_S (fun q => s.heap.size ≤ q) s.heap H locs → lv_has ls maxLocals lv → W p l e room_1 s m #[Value.ref b] below meth c H locs cells slots (lw_Z below #[Value.ref b] s) (F0 m pc ls st)
def LC (X : lj_X) (Y : fj_Y) (cL : ClassId) : Prop := match X with
  | ((p, l, _), (s, m, _, meth, c), (b, L, xs)) => p.tables.exec = Jvm.exec ∧ c.code = code ∧ meth.sig.returnType = ret ∧ c.maxLocals = maxLocals ∧ s.vm.findClass R_law = some m.cls ∧ (∀ w ∈ TW, w.before #[Value.ref b] s = true) ∧ va_X b L xs s s.heap ∧ b < s.heap.size ∧ meth.locks = false ∧ L ≤ 3072 ∧ l.stackTraces = false ∧ EN (fun q => s.heap.size ≤ q) s ∧ va_K Y.1 vwCl (tyl Y.2) s ∧ va_K Y.1 vwCl [(cL, .long)] s
abbrev lb (X : lj_X) : Nat := X.2.2.1
section LJR
variable {X : lj_X} {Y : fj_Y} {cL : ClassId} {w : lj_W} {cells slots : Nat} {pc : Nat} {lv : List (Nat × Value)} {st : List Value}
theorem l_vl {lv' : List (Nat × Value)} (k : LJ X Y cL w cells slots pc lv' st) (hs : lx_le lv' lv) : LJ X Y cL w cells slots pc lv st := by
  obtain ⟨⟨p, l, e⟩, ⟨s, m, below, meth, c⟩, ⟨b, L, xs⟩⟩ := X
  exact fun H locs ls hW hS hl => k H locs ls hW hS ⟨hl.1, hl.2.1, fun q hq => hl.2.2 q (lx_le_mem hs q hq)⟩
theorem l_iconst (C : LC X Y cL) {z : Int} {v : Int32} (hd : decode code pc = .ok (.iconst z, 1)) (hv : Int32.ofInt z = v) (k : LJ X Y cL w cells slots (pc + 1) lv (.int v :: st)) : LJ X Y cL w cells slots pc lv (st) := by
  obtain ⟨⟨p, l, e⟩, ⟨s, m, below, meth, c⟩, ⟨b, L, xs⟩⟩ := X
  obtain ⟨hx, hb, hret, hml, hown, hts, hX, hbl, hlk, hL, htr, hE, hK, hK2⟩ := C
  exact fun H locs ls hW hS hl => lv_iconst hx hb hd hv (k H locs ls hW hS hl)
theorem l_bipush (C : LC X Y cL) {z : Int} {v : Int32} (hd : decode code pc = .ok (.bipush z, 2)) (hv : (Int8.ofInt z).toInt32 = v) (k : LJ X Y cL w cells slots (pc + 2) lv (.int v :: st)) : LJ X Y cL w cells slots pc lv (st) := by
  obtain ⟨⟨p, l, e⟩, ⟨s, m, below, meth, c⟩, ⟨b, L, xs⟩⟩ := X
  obtain ⟨hx, hb, hret, hml, hown, hts, hX, hbl, hlk, hL, htr, hE, hK, hK2⟩ := C
  exact fun H locs ls hW hS hl => lv_bipush hx hb hd hv (k H locs ls hW hS hl)
theorem l_iload (C : LC X Y cL) {i : Nat} {x : Int32} (hd : decode code pc = .ok (.iload i, 2)) (hv : lx_get lv i = some (.int x)) (k : LJ X Y cL w cells slots (pc + 2) lv (.int x :: st)) : LJ X Y cL w cells slots pc lv (st) := by
  obtain ⟨⟨p, l, e⟩, ⟨s, m, below, meth, c⟩, ⟨b, L, xs⟩⟩ := X
  obtain ⟨hx, hb, hret, hml, hown, hts, hX, hbl, hlk, hL, htr, hE, hK, hK2⟩ := C
  exact fun H locs ls hW hS hl => lv_iload hx hb hd (hl.2.2 _ (lx_get_mem hv)) (k H locs ls hW hS hl)
theorem l_aload_n (C : LC X Y cL) {q : Fin 4} {i : Nat} {x : Nat} (hd : decode code pc = .ok (.aload_n q, 1)) (hi : (q : Nat) = i) (hv : lx_get lv i = some (.ref x)) (k : LJ X Y cL w cells slots (pc + 1) lv (.ref x :: st)) : LJ X Y cL w cells slots pc lv (st) := by
  obtain ⟨⟨p, l, e⟩, ⟨s, m, below, meth, c⟩, ⟨b, L, xs⟩⟩ := X
  obtain ⟨hx, hb, hret, hml, hown, hts, hX, hbl, hlk, hL, htr, hE, hK, hK2⟩ := C
  exact fun H locs ls hW hS hl => lv_aload_n hx hb hd hi (hl.2.2 _ (lx_get_mem hv)) (k H locs ls hW hS hl)
theorem l_iadd (C : LC X Y cL) {x y : Int32} (hd : decode code pc = .ok (.iadd, 1)) (k : LJ X Y cL w cells slots (pc + 1) lv (.int (x + y) :: st)) : LJ X Y cL w cells slots pc lv (.int y :: .int x :: st) := by
  obtain ⟨⟨p, l, e⟩, ⟨s, m, below, meth, c⟩, ⟨b, L, xs⟩⟩ := X
  obtain ⟨hx, hb, hret, hml, hown, hts, hX, hbl, hlk, hL, htr, hE, hK, hK2⟩ := C
  exact fun H locs ls hW hS hl => lv_iadd hx hb hd (k H locs ls hW hS hl)
theorem l_isub (C : LC X Y cL) {x y : Int32} (hd : decode code pc = .ok (.isub, 1)) (k : LJ X Y cL w cells slots (pc + 1) lv (.int (x - y) :: st)) : LJ X Y cL w cells slots pc lv (.int y :: .int x :: st) := by
  obtain ⟨⟨p, l, e⟩, ⟨s, m, below, meth, c⟩, ⟨b, L, xs⟩⟩ := X
  obtain ⟨hx, hb, hret, hml, hown, hts, hX, hbl, hlk, hL, htr, hE, hK, hK2⟩ := C
  exact fun H locs ls hW hS hl => lv_isub hx hb hd (k H locs ls hW hS hl)
theorem l_iand (C : LC X Y cL) {x y : Int32} (hd : decode code pc = .ok (.iand, 1)) (k : LJ X Y cL w cells slots (pc + 1) lv (.int (x &&& y) :: st)) : LJ X Y cL w cells slots pc lv (.int y :: .int x :: st) := by
  obtain ⟨⟨p, l, e⟩, ⟨s, m, below, meth, c⟩, ⟨b, L, xs⟩⟩ := X
  obtain ⟨hx, hb, hret, hml, hown, hts, hX, hbl, hlk, hL, htr, hE, hK, hK2⟩ := C
  exact fun H locs ls hW hS hl => lv_iand hx hb hd (k H locs ls hW hS hl)
theorem l_pop (C : LC X Y cL) {v : Value} (hd : decode code pc = .ok (.pop, 1)) (hc : v.category = 1) (k : LJ X Y cL w cells slots (pc + 1) lv (st)) : LJ X Y cL w cells slots pc lv (v :: st) := by
  obtain ⟨⟨p, l, e⟩, ⟨s, m, below, meth, c⟩, ⟨b, L, xs⟩⟩ := X
  obtain ⟨hx, hb, hret, hml, hown, hts, hX, hbl, hlk, hL, htr, hE, hK, hK2⟩ := C
  exact fun H locs ls hW hS hl => lv_pop hx hb hd hc (k H locs ls hW hS hl)
theorem l_goto (C : LC X Y cL) {off : Int} {tgt : Nat} (hd : decode code pc = .ok (.goto off, 3)) (ht : (pc : Int) + off = (tgt : Int)) (k : LJ X Y cL w cells slots tgt lv (st)) : LJ X Y cL w cells slots pc lv (st) := by
  obtain ⟨⟨p, l, e⟩, ⟨s, m, below, meth, c⟩, ⟨b, L, xs⟩⟩ := X
  obtain ⟨hx, hb, hret, hml, hown, hts, hX, hbl, hlk, hL, htr, hE, hK, hK2⟩ := C
  exact fun H locs ls hW hS hl => lv_goto hx hb hd ht (k H locs ls hW hS hl)
theorem l_tableIn (C : LC X Y cL) {dflt lo hi : Int} {offs : Array Int} {len : Nat} {x : Int32} {off : Int} {tgt : Nat} (hd : decode code pc = .ok (.tableswitch dflt lo hi offs, len)) (h1 : ¬ x.toInt < lo) (h2 : ¬ hi < x.toInt) (ho : offs[(x.toInt - lo).toNat]? = some off) (ht : (pc : Int) + off = (tgt : Int)) (k : LJ X Y cL w cells slots tgt lv (st)) : LJ X Y cL w cells slots pc lv (.int x :: st) := by
  obtain ⟨⟨p, l, e⟩, ⟨s, m, below, meth, c⟩, ⟨b, L, xs⟩⟩ := X
  obtain ⟨hx, hb, hret, hml, hown, hts, hX, hbl, hlk, hL, htr, hE, hK, hK2⟩ := C
  exact fun H locs ls hW hS hl => lv_tableIn hx hb hd h1 h2 ho ht (k H locs ls hW hS hl)
theorem l_sld (C : LC X Y cL) {i : Int32} {v : Int32} (hd : decode code pc = .ok (.iaload, 1)) (hi : vp_in i X.2.2.2.1) (hv : X.2.2.2.2 i.toNatClampNeg = v) (k : LJ X Y cL w cells slots (pc + 1) lv (.int v :: st)) : LJ X Y cL w cells slots pc lv (.int i :: .ref (lb X) :: st) := by
  obtain ⟨⟨p, l, e⟩, ⟨s, m, below, meth, c⟩, ⟨b, L, xs⟩⟩ := X
  obtain ⟨hx, hb, hret, hml, hown, hts, hX, hbl, hlk, hL, htr, hE, hK, hK2⟩ := C
  exact fun H locs ls hW hS hl => by
    subst hv
    exact va_sld hx hb hX hbl (fun z => absurd hbl (Nat.not_lt.mpr z)) hS hi hd (k H locs ls hW hS hl)
theorem l_slen (C : LC X Y cL) (hd : decode code pc = .ok (.arraylength, 1)) (k : LJ X Y cL w cells slots (pc + 1) lv (.int (Int32.ofNat X.2.2.2.1) :: st)) : LJ X Y cL w cells slots pc lv (.ref (lb X) :: st) := by
  obtain ⟨⟨p, l, e⟩, ⟨s, m, below, meth, c⟩, ⟨b, L, xs⟩⟩ := X
  obtain ⟨hx, hb, hret, hml, hown, hts, hX, hbl, hlk, hL, htr, hE, hK, hK2⟩ := C
  exact fun H locs ls hW hS hl => va_slen hx hb hX hbl (fun z => absurd hbl (Nat.not_lt.mpr z)) hS hd (k H locs ls hW hS hl)
theorem l_icmp_eq (C : LC X Y cL) {x y : Int32} {off : Int} {tgt : Nat} (hd : decode code pc = .ok (.if_icmp .eq off, 3)) (ht : (pc : Int) + off = (tgt : Int)) (kt : x = y → LJ X Y cL w cells slots tgt lv st) (kf : ¬ x = y → LJ X Y cL w cells slots (pc + 3) lv st) : LJ X Y cL w cells slots pc lv (.int y :: .int x :: st) := by
  obtain ⟨⟨p, l, e⟩, ⟨s, m, below, meth, c⟩, ⟨b, L, xs⟩⟩ := X
  obtain ⟨hx, hb, hret, hml, hown, hts, hX, hbl, hlk, hL, htr, hE, hK, hK2⟩ := C
  exact fun H locs ls hW hS hl => lv_icmp_eq hx hb hd ht (fun q => kt q H locs ls hW hS hl) (fun q => kf q H locs ls hW hS hl)
theorem l_icmp_ne (C : LC X Y cL) {x y : Int32} {off : Int} {tgt : Nat} (hd : decode code pc = .ok (.if_icmp .ne off, 3)) (ht : (pc : Int) + off = (tgt : Int)) (kt : ¬ x = y → LJ X Y cL w cells slots tgt lv st) (kf : x = y → LJ X Y cL w cells slots (pc + 3) lv st) : LJ X Y cL w cells slots pc lv (.int y :: .int x :: st) := by
  obtain ⟨⟨p, l, e⟩, ⟨s, m, below, meth, c⟩, ⟨b, L, xs⟩⟩ := X
  obtain ⟨hx, hb, hret, hml, hown, hts, hX, hbl, hlk, hL, htr, hE, hK, hK2⟩ := C
  exact fun H locs ls hW hS hl => lv_icmp_ne hx hb hd ht (fun q => kt q H locs ls hW hS hl) (fun q => kf q H locs ls hW hS hl)
theorem l_icmp_gt (C : LC X Y cL) {x y : Int32} {off : Int} {tgt : Nat} (hd : decode code pc = .ok (.if_icmp .gt off, 3)) (ht : (pc : Int) + off = (tgt : Int)) (kt : y < x → LJ X Y cL w cells slots tgt lv st) (kf : ¬ y < x → LJ X Y cL w cells slots (pc + 3) lv st) : LJ X Y cL w cells slots pc lv (.int y :: .int x :: st) := by
  obtain ⟨⟨p, l, e⟩, ⟨s, m, below, meth, c⟩, ⟨b, L, xs⟩⟩ := X
  obtain ⟨hx, hb, hret, hml, hown, hts, hX, hbl, hlk, hL, htr, hE, hK, hK2⟩ := C
  exact fun H locs ls hW hS hl => lv_icmp_gt hx hb hd ht (fun q => kt q H locs ls hW hS hl) (fun q => kf q H locs ls hW hS hl)
theorem l_icmp_lt (C : LC X Y cL) {x y : Int32} {off : Int} {tgt : Nat} (hd : decode code pc = .ok (.if_icmp .lt off, 3)) (ht : (pc : Int) + off = (tgt : Int)) (kt : x < y → LJ X Y cL w cells slots tgt lv st) (kf : ¬ x < y → LJ X Y cL w cells slots (pc + 3) lv st) : LJ X Y cL w cells slots pc lv (.int y :: .int x :: st) := by
  obtain ⟨⟨p, l, e⟩, ⟨s, m, below, meth, c⟩, ⟨b, L, xs⟩⟩ := X
  obtain ⟨hx, hb, hret, hml, hown, hts, hX, hbl, hlk, hL, htr, hE, hK, hK2⟩ := C
  exact fun H locs ls hW hS hl => lv_icmp_lt hx hb hd ht (fun q => kt q H locs ls hW hS hl) (fun q => kf q H locs ls hW hS hl)
theorem l_icmp_ge (C : LC X Y cL) {x y : Int32} {off : Int} {tgt : Nat} (hd : decode code pc = .ok (.if_icmp .ge off, 3)) (ht : (pc : Int) + off = (tgt : Int)) (kt : y ≤ x → LJ X Y cL w cells slots tgt lv st) (kf : ¬ y ≤ x → LJ X Y cL w cells slots (pc + 3) lv st) : LJ X Y cL w cells slots pc lv (.int y :: .int x :: st) := by
  obtain ⟨⟨p, l, e⟩, ⟨s, m, below, meth, c⟩, ⟨b, L, xs⟩⟩ := X
  obtain ⟨hx, hb, hret, hml, hown, hts, hX, hbl, hlk, hL, htr, hE, hK, hK2⟩ := C
  exact fun H locs ls hW hS hl => lv_icmp_ge hx hb hd ht (fun q => kt q H locs ls hW hS hl) (fun q => kf q H locs ls hW hS hl)
theorem l_icmp_le (C : LC X Y cL) {x y : Int32} {off : Int} {tgt : Nat} (hd : decode code pc = .ok (.if_icmp .le off, 3)) (ht : (pc : Int) + off = (tgt : Int)) (kt : x ≤ y → LJ X Y cL w cells slots tgt lv st) (kf : ¬ x ≤ y → LJ X Y cL w cells slots (pc + 3) lv st) : LJ X Y cL w cells slots pc lv (.int y :: .int x :: st) := by
  obtain ⟨⟨p, l, e⟩, ⟨s, m, below, meth, c⟩, ⟨b, L, xs⟩⟩ := X
  obtain ⟨hx, hb, hret, hml, hown, hts, hX, hbl, hlk, hL, htr, hE, hK, hK2⟩ := C
  exact fun H locs ls hW hS hl => lv_icmp_le hx hb hd ht (fun q => kt q H locs ls hW hS hl) (fun q => kf q H locs ls hW hS hl)
theorem l_if_eq (C : LC X Y cL) {x : Int32} {off : Int} {tgt : Nat} (hd : decode code pc = .ok (.ifCond .eq off, 3)) (ht : (pc : Int) + off = (tgt : Int)) (kt : x = 0 → LJ X Y cL w cells slots tgt lv st) (kf : ¬ x = 0 → LJ X Y cL w cells slots (pc + 3) lv st) : LJ X Y cL w cells slots pc lv (.int x :: st) := by
  obtain ⟨⟨p, l, e⟩, ⟨s, m, below, meth, c⟩, ⟨b, L, xs⟩⟩ := X
  obtain ⟨hx, hb, hret, hml, hown, hts, hX, hbl, hlk, hL, htr, hE, hK, hK2⟩ := C
  exact fun H locs ls hW hS hl => lv_if_eq hx hb hd ht (fun q => kt q H locs ls hW hS hl) (fun q => kf q H locs ls hW hS hl)
theorem l_if_ne (C : LC X Y cL) {x : Int32} {off : Int} {tgt : Nat} (hd : decode code pc = .ok (.ifCond .ne off, 3)) (ht : (pc : Int) + off = (tgt : Int)) (kt : ¬ x = 0 → LJ X Y cL w cells slots tgt lv st) (kf : x = 0 → LJ X Y cL w cells slots (pc + 3) lv st) : LJ X Y cL w cells slots pc lv (.int x :: st) := by
  obtain ⟨⟨p, l, e⟩, ⟨s, m, below, meth, c⟩, ⟨b, L, xs⟩⟩ := X
  obtain ⟨hx, hb, hret, hml, hown, hts, hX, hbl, hlk, hL, htr, hE, hK, hK2⟩ := C
  exact fun H locs ls hW hS hl => lv_if_ne hx hb hd ht (fun q => kt q H locs ls hW hS hl) (fun q => kf q H locs ls hW hS hl)
theorem l_istore (C : LC X Y cL) {i : Nat} {x : Int32} {lv' : List (Nat × Value)} (hd : decode code pc = .ok (.istore i, 2)) (hn : i < maxLocals) (hv : lx_put lv i (.int x) = some lv') (k : LJ X Y cL w cells slots (pc + 2) lv' st) : LJ X Y cL w cells slots pc lv (.int x :: st) := by
  obtain ⟨⟨p, l, e⟩, ⟨s, m, below, meth, c⟩, ⟨b, L, xs⟩⟩ := X
  obtain ⟨hx, hb, hret, hml, hown, hts, hX, hbl, hlk, hL, htr, hE, hK, hK2⟩ := C
  exact fun H locs ls hW hS hl => lv_istore hx hb hd hl hn rfl (fun ls2 hl2 => k H locs ls2 hW hS (lx_has hv hl2))
theorem l_iinc (C : LC X Y cL) {i : Nat} {z : Int} {x v : Int32} {lv' : List (Nat × Value)} (hd : decode code pc = .ok (.iinc i z, 3)) (hg : lx_get lv i = some (.int x)) (he : x + Int32.ofInt z = v) (hn : i < maxLocals) (hv : lx_put lv i (.int v) = some lv') (k : LJ X Y cL w cells slots (pc + 3) lv' st) : LJ X Y cL w cells slots pc lv st := by
  obtain ⟨⟨p, l, e⟩, ⟨s, m, below, meth, c⟩, ⟨b, L, xs⟩⟩ := X
  obtain ⟨hx, hb, hret, hml, hown, hts, hX, hbl, hlk, hL, htr, hE, hK, hK2⟩ := C
  obtain ⟨k0, hk0⟩ := List.getElem?_of_mem (lx_get_mem hg)
  exact fun H locs ls hW hS hl => lv_iinc hx hb hd hl hk0 he hn rfl (fun ls2 hl2 => k H locs ls2 hW hS (lx_has hv hl2))
theorem l_widen {c' s' : Nat} (h1 : cells ≤ c') (h2 : slots ≤ s') (k : LJ X Y cL w c' s' pc lv st) : LJ X Y cL w cells slots pc lv st := by
  obtain ⟨⟨p, l, e⟩, ⟨s, m, below, meth, c⟩, ⟨b, L, xs⟩⟩ := X
  exact fun H locs ls hW hS hl => W.widen h1 h2 (k H locs ls hW hS hl)
/-- the law's own end, with 1 on the stack -/
theorem l_end (C : LC X Y cL) (hd : decode code pc = .ok (.ireturn, 1)) (h1 : cells ≤ 601024) (h2 : slots ≤ 7293034) : LJ X Y cL w cells slots pc lv [.int 1] := by
  obtain ⟨⟨p, l, e⟩, ⟨s, m, below, meth, c⟩, ⟨b, L, xs⟩⟩ := X
  obtain ⟨hx, hb, hr, hml, hown, hts, hX, hbl, hlocks, hL, htr, hE, hK, hK2⟩ := C
  intro H locs ls hW hS hl
  refine va_forget (fun q hq => hS.2.2 q hq) ?_
  refine W.widen h1 h2 ?_
  intro T hT X
  obtain ⟨fs, hret, hrun, hended, hW, hframe⟩ := X.leave (v := some (.int 1)) (hlocks := hlocks) (fun h => by rw [hr] at h; cases h)
  have hmeth' : T.vm.method? m = some meth := X.method'
  refine ⟨T.setFrames fs, ?_, .returned (some (.int 1)), hrun, hended, rfl, ⟨_, rfl⟩, hW, hframe⟩
  jvm_step X.here [X.here.top, hx, hb, hd, hmeth', hr, ret, narrow_b1]
  (try refine ⟨rfl, ?_⟩); (try refine ⟨rfl, ?_⟩)
  first | (intro acts; rw [hret _ acts rfl rfl rfl]) | rw [hret _ _ rfl rfl rfl]
  exact Steps.refl _
end LJR
