/-! CONTRACTS of methods that make objects, throw, or need what the tables say beyond their good words -/
abbrev gU : Type := Nat × (Nat → Nat) × ph_S × ph_H
def gPc (Y : fj_Y) (ad : Nat → Nat) (n : Nat) (S : ph_S) (h : ph_H) (av : List Value) (sz : Nat) : Array Value → State → Prop := va_Pc av (fun U => U.heap.size = sz ∧ wW Y ad n S h (fun _ => True) U ∧ EN (va_A (ph_w n Y.2 ad S h) sz) U)
theorem gPc_blind {Y : fj_Y} {ad : Nat → Nat} {n : Nat} {S : ph_S} {h : ph_H} {av : List Value} {sz : Nat} : FrameBlind (gPc Y ad n S h av sz) := fun a U g mk q => by
  obtain ⟨q0, q1, ⟨qP, qK, qD⟩, qE⟩ := q
  exact ⟨q0, q1, ⟨qP, va_K.moved (u := U) (U := U.calling g mk a) (Vm.Alike.refl U.vm) qK, qD⟩, qE.blind⟩
def GM (l : Launch) (y : MethodName) (w : Cond) (rm : Room) (Y : fj_Y) (ad : Nat → Nat) (n : Nat) (S : ph_S) (h : ph_H) (av : List Value) (Qc : Nat → Array Value → State → Outcome → State → Prop) : Prop := ∀ sz : Nat, Met l y (w :: TW) rm (gPc Y ad n S h av sz) (Qc sz) rm.cells rm.slots (va_A (ph_w n Y.2 ad S h) sz)
def gB (Y : fj_Y) (ad : Nat → Nat) (n : Nat) (S : ph_S) (h : ph_H) (sz : Nat) (u : gU) (t : State) : Prop := wW Y u.2.1 u.1 u.2.2.1 u.2.2.2 (va_A (ph_w n Y.2 ad S h) sz) t
def gQi (Y : fj_Y) (ad : Nat → Nat) (n : Nat) (S : ph_S) (h : ph_H) (post : Int32 → gU → Prop) (sz : Nat) : Array Value → State → Outcome → State → Prop := va_Qi post (gB Y ad n S h sz) (va_A (ph_w n Y.2 ad S h) sz)
def gQv (Y : fj_Y) (ad : Nat → Nat) (n : Nat) (S : ph_S) (h : ph_H) (post : gU → Prop) (sz : Nat) : Array Value → State → Outcome → State → Prop := va_Qv post (gB Y ad n S h sz) (va_A (ph_w n Y.2 ad S h) sz)
def gQr (Y : fj_Y) (ad : Nat → Nat) (n : Nat) (S : ph_S) (h : ph_H) (post : Option Nat → gU → Prop) (sz : Nat) : Array Value → State → Outcome → State → Prop := va_Qq (fun r u => ∃ k : Option Nat, r = k.map u.2.1 ∧ post k u) (gB Y ad n S h sz) (va_A (ph_w n Y.2 ad S h) sz)
def gXX (Y : fj_Y) (ad : Nat → Nat) (n : Nat) (S : ph_S) (h : ph_H) (px : String → gU → Prop) (sz : Nat) : String → State → State → Prop := vx_X (fun _ : gU => True) (fun E u t => px E u ∧ gB Y ad n S h sz u t) (va_A (ph_w n Y.2 ad S h) sz)
/-- a method that returns an int, or throws -/
def XM (l : Launch) (y : MethodName) (w : Cond) (rm : Room) (Y : fj_Y) (ad : Nat → Nat) (n : Nat) (S : ph_S) (h : ph_H) (av : List Value) (post : Nat → Array Value → State → Outcome → State → Prop) (px : String → gU → Prop) : Prop := ∀ sz : Nat, vx_Met l y (w :: TW) rm (gPc Y ad n S h av sz) (post sz) (gXX Y ad n S h px sz) rm.cells rm.slots (va_A (ph_w n Y.2 ad S h) sz)
section ENTRY
variable {l : Launch} {y : MethodName} {cc : ByteArray} {maxL : Nat} {ty : FieldType} {rm : Room} {Y : fj_Y} {ad : Nat → Nat} {n : Nat} {S : ph_S} {h : ph_H} {av : List Value}
theorem met_gi {post : Int32 → gU → Prop} (hy : plainName y.cls = true) (hav : (lg_sl av).length ≤ maxL) (hn : ∀ r u, post r u → narrow ty (.int r) = .int r)
    (body : ∀ X : fj_X, FC X Y l cc maxL y.cls rm 0 0 (some ty) → FE X → FN X y.name → (∀ r u a b, post r u → a ≤ rm.cells → b ≤ rm.slots → ∀ pc lv, decode cc pc = .ok (.ireturn, 1) → FJ (xg X a b) Y u.2.1 u.1 u.2.2.1 u.2.2.2 pc lv [.int r]) → FJ X Y ad n S h 0 (lv_args 0 av) []) : GM l y (.code y cc maxL (some ty)) rm Y ad n S h av (gQi Y ad n S h post) := by
  intro sz
  refine Met.ofW (cc := cc) (maxL := maxL) (ret := some ty) hy rfl ?_
  intro p e s m args below meth c s₁ B hml hv
  obtain ⟨rfl, hsz, ⟨hP, hK, hD0⟩, hE⟩ := hv
  subst hsz
  have hts := atoms_spec (ws := Cond.code y cc maxL (some ty) :: TW) B.pre
  obtain ⟨G, cA⟩ := Y
  have hD := hD0.self (sz := s.heap.size)
  have hl := lv_entry av (n := maxL) hav
  rw [lg_entry_eq]
  refine body ((p, l, e, rm), (s, m, av.toArray, below, meth, c), (0, 0, _), (maxL, va_A (ph_w n cA ad S h) s.heap.size)) ⟨B.exec, B.bytes, hml, findClass_of_methodNamed B.named, fun w hw => hts w (List.mem_cons_of_mem _ hw), hK, B.notSynchronized, rfl, rfl, rfl, rfl, B.returns, rfl, Nat.zero_le _, Nat.zero_le _, fun q hq => Or.inr hq⟩ hE (name_of_methodNamed B.named B.method).1 ?_ s.heap [] _ hP hD va_S.rf hl
  intro r u a b hp ha hb pc lv hd H locs ls hP' hD' hS' hl'
  refine W.widen (k := rm.cells) (n := rm.slots) (by show 0 + a ≤ _; omega) (by show 0 + b ≤ _; omega) ?_
  exact W.zret (v := r) B.exec B.bytes B.returns (hn r u hp) (fun t ht hW => ⟨⟨r, u, rfl, hp, by rw [ht]; exact hP', va_K.moved hW.alike hK, hD'⟩, hS'.F ht⟩) hS'.2.2 hd
theorem met_gv {post : gU → Prop} (hy : plainName y.cls = true) (hav : (lg_sl av).length ≤ maxL)
    (body : ∀ X : fj_X, FC X Y l cc maxL y.cls rm 0 0 none → FE X → FN X y.name → (∀ u a b, post u → a ≤ rm.cells → b ≤ rm.slots → ∀ pc lv, decode cc pc = .ok (.return_, 1) → FJ (xg X a b) Y u.2.1 u.1 u.2.2.1 u.2.2.2 pc lv []) → FJ X Y ad n S h 0 (lv_args 0 av) []) : GM l y (.code y cc maxL none) rm Y ad n S h av (gQv Y ad n S h post) := by
  intro sz
  refine Met.ofW (cc := cc) (maxL := maxL) (ret := none) hy rfl ?_
  intro p e s m args below meth c s₁ B hml hv
  obtain ⟨rfl, hsz, ⟨hP, hK, hD0⟩, hE⟩ := hv
  subst hsz
  have hts := atoms_spec (ws := Cond.code y cc maxL none :: TW) B.pre
  obtain ⟨G, cA⟩ := Y
  have hD := hD0.self (sz := s.heap.size)
  have hl := lv_entry av (n := maxL) hav
  rw [lg_entry_eq]
  refine body ((p, l, e, rm), (s, m, av.toArray, below, meth, c), (0, 0, _), (maxL, va_A (ph_w n cA ad S h) s.heap.size)) ⟨B.exec, B.bytes, hml, findClass_of_methodNamed B.named, fun w hw => hts w (List.mem_cons_of_mem _ hw), hK, B.notSynchronized, rfl, rfl, rfl, rfl, B.returns, rfl, Nat.zero_le _, Nat.zero_le _, fun q hq => Or.inr hq⟩ hE (name_of_methodNamed B.named B.method).1 ?_ s.heap [] _ hP hD va_S.rf hl
  intro u a b hp ha hb pc lv hd H locs ls hP' hD' hS' hl'
  refine W.widen (k := rm.cells) (n := rm.slots) (by show 0 + a ≤ _; omega) (by show 0 + b ≤ _; omega) ?_
  exact W.vret B.exec B.bytes B.returns (fun t ht hW => ⟨⟨u, rfl, hp, by rw [ht]; exact hP', va_K.moved hW.alike hK, hD'⟩, hS'.F ht⟩) hS'.2.2 hd
theorem met_gr {post : Option Nat → gU → Prop} (hy : plainName y.cls = true) (hav : (lg_sl av).length ≤ maxL) (hrt : ∃ nm, ty = .object nm)
    (body : ∀ X : fj_X, FC X Y l cc maxL y.cls rm 0 0 (some ty) → FE X → FN X y.name → (∀ k u a b, post k u → a ≤ rm.cells → b ≤ rm.slots → ∀ pc lv, decode cc pc = .ok (.areturn, 1) → FJ (xg X a b) Y u.2.1 u.1 u.2.2.1 u.2.2.2 pc lv [va_rf (k.map u.2.1)]) → FJ X Y ad n S h 0 (lv_args 0 av) []) : GM l y (.code y cc maxL (some ty)) rm Y ad n S h av (gQr Y ad n S h post) := by
  intro sz
  refine Met.ofW (cc := cc) (maxL := maxL) (ret := some ty) hy rfl ?_
  intro p e s m args below meth c s₁ B hml hv
  obtain ⟨rfl, hsz, ⟨hP, hK, hD0⟩, hE⟩ := hv
  subst hsz
  have hts := atoms_spec (ws := Cond.code y cc maxL (some ty) :: TW) B.pre
  obtain ⟨G, cA⟩ := Y
  have hD := hD0.self (sz := s.heap.size)
  have hl := lv_entry av (n := maxL) hav
  rw [lg_entry_eq]
  refine body ((p, l, e, rm), (s, m, av.toArray, below, meth, c), (0, 0, _), (maxL, va_A (ph_w n cA ad S h) s.heap.size)) ⟨B.exec, B.bytes, hml, findClass_of_methodNamed B.named, fun w hw => hts w (List.mem_cons_of_mem _ hw), hK, B.notSynchronized, rfl, rfl, rfl, rfl, B.returns, rfl, Nat.zero_le _, Nat.zero_le _, fun q hq => Or.inr hq⟩ hE (name_of_methodNamed B.named B.method).1 ?_ s.heap [] _ hP hD va_S.rf hl
  intro k u a b hp ha hb pc lv hd H locs ls hP' hD' hS' hl'
  refine W.widen (k := rm.cells) (n := rm.slots) (by show 0 + a ≤ _; omega) (by show 0 + b ≤ _; omega) ?_
  exact W.aret (v := va_rf (k.map u.2.1)) B.exec B.bytes B.returns (Or.inl hrt) (by cases k with | none => exact Or.inl rfl | some z => exact Or.inr ⟨_, rfl⟩) (fun t ht hW => ⟨⟨k.map u.2.1, u, rfl, ⟨k, rfl, hp⟩, by rw [ht]; exact hP', va_K.moved hW.alike hK, hD'⟩, hS'.F ht⟩) hS'.2.2 hd
/-- 'throw new E("text")' stands at pc -/
def ThrowAt (cc : ByteArray) (own : String) (pc : Nat) (E : String) : Prop := ∃ (ik is ic : Nat) (text : String), decode cc pc = .ok (.new ik, 3) ∧ decode cc (pc + 3) = .ok (.dup, 1) ∧ Cond.classLink own ik E ∈ TW ∧ Cond.initialized E ∈ TW ∧ THR own ic E ∧ (own, is, text) ∈ enS ∧ Bundle.fit E = true ∧
  ((decode cc (pc + 4) = .ok (.ldc is, 2) ∧ decode cc (pc + 6) = .ok (.invokespecial ic, 3) ∧ decode cc (pc + 9) = .ok (.athrow, 1)) ∨ (decode cc (pc + 4) = .ok (.ldc_w is, 3) ∧ decode cc (pc + 7) = .ok (.invokespecial ic, 3) ∧ decode cc (pc + 10) = .ok (.athrow, 1)))
theorem thN_fit : ∀ n ∈ thN, Bundle.fit n = true := by decide +kernel
/-- what a body that may throw has at hand -/
def KT (X : fj_X) (Y : fj_Y) (cc : ByteArray) (own : String) (rm : Room) (px : String → gU → Prop) : Prop := ∀ (E : String) (u : gU) (a b : Nat), px E u → a + 1 ≤ rm.cells → b + 6 ≤ rm.slots → 5 < rm.frames → ∀ (pc : Nat) (lv : List (Nat × Value)) (st : List Value), (st.map fun v => v.category).sum + 82 ≤ rm.locals → ThrowAt cc own pc E → FJ (xg X a b) Y u.2.1 u.1 u.2.2.1 u.2.2.2 pc lv st
theorem met_x {post : Int32 → gU → Prop} {px : String → gU → Prop} (htr : l.stackTraces = false) (hy : plainName y.cls = true) (hav : (lg_sl av).length ≤ maxL) (hn : ∀ r u, post r u → narrow ty (.int r) = .int r)
    (body : ∀ X : fj_X, FC X Y l cc maxL y.cls rm 0 0 (some ty) → FE X → (∀ r u a b, post r u → a ≤ rm.cells → b ≤ rm.slots → ∀ pc lv, decode cc pc = .ok (.ireturn, 1) → FJ (xg X a b) Y u.2.1 u.1 u.2.2.1 u.2.2.2 pc lv [.int r]) → KT X Y cc y.cls rm px → FJ X Y ad n S h 0 (lv_args 0 av) []) : XM l y (.code y cc maxL (some ty)) rm Y ad n S h av (gQi Y ad n S h post) px := by
  intro sz
  refine vx_ofW (cc := cc) (maxL := maxL) (ret := some ty) hy rfl ?_
  intro p e s m args below meth c s₁ B hml hnt hv
  obtain ⟨rfl, hsz, ⟨hP, hK, hD0⟩, hE⟩ := hv
  subst hsz
  have hts := atoms_spec (ws := Cond.code y cc maxL (some ty) :: TW) B.pre
  have hts' : ∀ w ∈ TW, w.before av.toArray s = true := fun w hw => hts w (List.mem_cons_of_mem _ hw)
  obtain ⟨G, cA⟩ := Y
  have hD := hD0.self (sz := s.heap.size)
  have hl := lv_entry av (n := maxL) hav
  rw [lg_entry_eq]
  refine body ((p, l, e, rm), (s, m, av.toArray, below, meth, c), (0, 0, _), (maxL, va_A (ph_w n cA ad S h) s.heap.size)) ⟨B.exec, B.bytes, hml, findClass_of_methodNamed B.named, hts', hK, B.notSynchronized, rfl, rfl, rfl, rfl, B.returns, rfl, Nat.zero_le _, Nat.zero_le _, fun q hq => Or.inr hq⟩ hE ?_ ?_ s.heap [] _ hP hD va_S.rf hl
  · intro r u a b hp ha hb pc lv hd H locs ls hP' hD' hS' hl'
    refine W.widen (k := rm.cells) (n := rm.slots) (by show 0 + a ≤ _; omega) (by show 0 + b ≤ _; omega) ?_
    refine vx_ret ?_
    exact W.zret (v := r) B.exec B.bytes B.returns (hn r u hp) (fun t ht hW => ⟨⟨r, u, rfl, hp, by rw [ht]; exact hP', va_K.moved hW.alike hK, hD'⟩, hS'.F ht⟩) hS'.2.2 hd
  · intro Ex u a b hp ha hb hfr pc lv st hst hT H locs ls hP' hD' hS' hl'
    obtain ⟨ik, is, ic, text, d0, d3, hlk, hini, hthr, hin, hfit, hdd⟩ := hT
    obtain ⟨-, -, -, -, hstr, -, -, hU, hN⟩ := id hE
    obtain ⟨sa, hsa⟩ := hstr _ hin
    have hat := hthr.hat hE hts'
    have hgood : ∀ w ∈ Cond.classLink y.cls ik Ex :: Cond.initialized Ex :: vx_atS y.cls ic Ex thN, vx_ot w = true := fun w hw => by
      rcases List.mem_cons.mp hw with e1 | hw
      · rw [e1]; rfl
      · rcases List.mem_cons.mp hw with e1 | hw
        · rw [e1]; rfl
        · exact (hthr w hw).2
    have hx : ∀ t : State, s.vm.Alike t.vm → H.size ≤ t.heap.size → (∀ q : Nat, q < H.size → t.heap[q]? = H[q]?) → gXX (G, cA) ad n S h px s.heap.size Ex s t := fun t hv hz hk => ⟨u, trivial, ⟨hp, hP'.kept (fun k x hx => hk x.1 ((hP' k x hx).lt)), va_K.moved hv hK, hD'⟩, Nat.le_trans hS'.1 hz, fun q h1 h2 => (hk q (Nat.lt_of_lt_of_le h1 hS'.1)).trans (hS'.2.1 q h1 h2)⟩
    rcases hdd with ⟨d4, d6, d9⟩ | ⟨d4, d7, d10⟩
    · exact vx_throwS (mc := rm.cells) (ms := rm.slots) B.exec B.bytes htr (own := y.cls) (cls := Ex) (names := thN) (findClass_of_methodNamed B.named) hfit thN_fit (hts' _ hlk) (hts' _ hini) hsa hat hgood hU hN hS' (hl'.1.trans hml.symm) d0 d3 d4 d6 d9 (fun x hx => (hnt x hx).elim) (by show 2 + 3 < rm.frames; exact hfr) (by show _ + (13 * (2 + 1) + 43) ≤ rm.locals; omega) (by show 0 + a + 1 ≤ rm.cells; omega) (by show 0 + b + 6 ≤ rm.slots; omega) B.notSynchronized hx hS'.2.2 (by show 0 + a + 1 ≤ rm.cells; omega) (by show 0 + b + 6 ≤ rm.slots; omega)
    · exact vx_throwSW (mc := rm.cells) (ms := rm.slots) B.exec B.bytes htr (own := y.cls) (cls := Ex) (names := thN) (findClass_of_methodNamed B.named) hfit thN_fit (hts' _ hlk) (hts' _ hini) hsa hat hgood hU hN hS' (hl'.1.trans hml.symm) d0 d3 d4 d7 d10 (fun x hx => (hnt x hx).elim) (by show 2 + 3 < rm.frames; exact hfr) (by show _ + (13 * (2 + 1) + 43) ≤ rm.locals; omega) (by show 0 + a + 1 ≤ rm.cells; omega) (by show 0 + b + 6 ≤ rm.slots; omega) B.notSynchronized hx hS'.2.2 (by show 0 + a + 1 ≤ rm.cells; omega) (by show 0 + b + 6 ≤ rm.slots; omega)
/-- a method that only throws -/
theorem met_xt {ret : Option FieldType} {Qc : Nat → Array Value → State → Outcome → State → Prop} {px : String → gU → Prop} (htr : l.stackTraces = false) (hy : plainName y.cls = true) (hav : (lg_sl av).length ≤ maxL)
    (body : ∀ X : fj_X, FC X Y l cc maxL y.cls rm 0 0 ret → FE X → KT X Y cc y.cls rm px → FJ X Y ad n S h 0 (lv_args 0 av) []) : XM l y (.code y cc maxL ret) rm Y ad n S h av Qc px := by
  intro sz
  refine vx_ofW (cc := cc) (maxL := maxL) (ret := ret) hy rfl ?_
  intro p e s m args below meth c s₁ B hml hnt hv
  obtain ⟨rfl, hsz, ⟨hP, hK, hD0⟩, hE⟩ := hv
  subst hsz
  have hts := atoms_spec (ws := Cond.code y cc maxL ret :: TW) B.pre
  have hts' : ∀ w ∈ TW, w.before av.toArray s = true := fun w hw => hts w (List.mem_cons_of_mem _ hw)
  obtain ⟨G, cA⟩ := Y
  have hD := hD0.self (sz := s.heap.size)
  have hl := lv_entry av (n := maxL) hav
  rw [lg_entry_eq]
  refine body ((p, l, e, rm), (s, m, av.toArray, below, meth, c), (0, 0, _), (maxL, va_A (ph_w n cA ad S h) s.heap.size)) ⟨B.exec, B.bytes, hml, findClass_of_methodNamed B.named, hts', hK, B.notSynchronized, rfl, rfl, rfl, rfl, B.returns, rfl, Nat.zero_le _, Nat.zero_le _, fun q hq => Or.inr hq⟩ hE ?_ s.heap [] _ hP hD va_S.rf hl
  intro Ex u a b hp ha hb hfr pc lv st hst hT H locs ls hP' hD' hS' hl'
  obtain ⟨ik, is, ic, text, d0, d3, hlk, hini, hthr, hin, hfit, hdd⟩ := hT
  obtain ⟨-, -, -, -, hstr, -, -, hU, hN⟩ := id hE
  obtain ⟨sa, hsa⟩ := hstr _ hin
  have hat := hthr.hat hE hts'
  have hgood : ∀ w ∈ Cond.classLink y.cls ik Ex :: Cond.initialized Ex :: vx_atS y.cls ic Ex thN, vx_ot w = true := fun w hw => by
    rcases List.mem_cons.mp hw with e1 | hw
    · rw [e1]; rfl
    · rcases List.mem_cons.mp hw with e1 | hw
      · rw [e1]; rfl
      · exact (hthr w hw).2
  have hx : ∀ t : State, s.vm.Alike t.vm → H.size ≤ t.heap.size → (∀ q : Nat, q < H.size → t.heap[q]? = H[q]?) → gXX (G, cA) ad n S h px s.heap.size Ex s t := fun t hv hz hk => ⟨u, trivial, ⟨hp, hP'.kept (fun k x hx => hk x.1 ((hP' k x hx).lt)), va_K.moved hv hK, hD'⟩, Nat.le_trans hS'.1 hz, fun q h1 h2 => (hk q (Nat.lt_of_lt_of_le h1 hS'.1)).trans (hS'.2.1 q h1 h2)⟩
  rcases hdd with ⟨d4, d6, d9⟩ | ⟨d4, d7, d10⟩
  · exact vx_throwS (mc := rm.cells) (ms := rm.slots) B.exec B.bytes htr (own := y.cls) (cls := Ex) (names := thN) (findClass_of_methodNamed B.named) hfit thN_fit (hts' _ hlk) (hts' _ hini) hsa hat hgood hU hN hS' (hl'.1.trans hml.symm) d0 d3 d4 d6 d9 (fun x hx => (hnt x hx).elim) (by show 2 + 3 < rm.frames; exact hfr) (by show _ + (13 * (2 + 1) + 43) ≤ rm.locals; omega) (by show 0 + a + 1 ≤ rm.cells; omega) (by show 0 + b + 6 ≤ rm.slots; omega) B.notSynchronized hx hS'.2.2 (by show 0 + a + 1 ≤ rm.cells; omega) (by show 0 + b + 6 ≤ rm.slots; omega)
  · exact vx_throwSW (mc := rm.cells) (ms := rm.slots) B.exec B.bytes htr (own := y.cls) (cls := Ex) (names := thN) (findClass_of_methodNamed B.named) hfit thN_fit (hts' _ hlk) (hts' _ hini) hsa hat hgood hU hN hS' (hl'.1.trans hml.symm) d0 d3 d4 d7 d10 (fun x hx => (hnt x hx).elim) (by show 2 + 3 < rm.frames; exact hfr) (by show _ + (13 * (2 + 1) + 43) ≤ rm.locals; omega) (by show 0 + a + 1 ≤ rm.cells; omega) (by show 0 + b + 6 ≤ rm.slots; omega) B.notSynchronized hx hS'.2.2 (by show 0 + a + 1 ≤ rm.cells; omega) (by show 0 + b + 6 ≤ rm.slots; omega)
end ENTRY
/-! CALLS -/
def GRun (X : fj_X) (Y : fj_Y) (ad : Nat → Nat) (n : Nat) (S : ph_S) (h : ph_H) (pc : Nat) (lv : List (Nat × Value)) (stk st : List Value) (rm2 : Room) (Qa : Nat → State → Outcome → State → Prop) : Prop := match X, Y with
  | ((p, l, e, R), (s, m, args, below, meth, c), (cells, slots, _), (nL, A)), (G, cA) => ∀ (H : Heap) (locs : List Loc) (ls : Array Slot), va_P G vwCl (ph_w n cA ad S h) H → va_D A (ph_w n cA ad S h) → va_S A s.heap H locs → lv_has ls nL lv → va_Run p l e R s m args below meth c H locs cells slots rm2.cells rm2.slots (F0 m pc ls stk) st (Qa H.size) (va_A (ph_w n cA ad S h) H.size)
def XRun (X : fj_X) (Y : fj_Y) (ad : Nat → Nat) (n : Nat) (S : ph_S) (h : ph_H) (pc : Nat) (lv : List (Nat × Value)) (stk st : List Value) (rm2 : Room) (Qa : Nat → State → Outcome → State → Prop) (px : String → gU → Prop) : Prop := match X, Y with
  | ((p, l, e, R), (s, m, args, below, meth, c), (cells, slots, _), (nL, A)), (G, cA) => ∀ (H : Heap) (locs : List Loc) (ls : Array Slot), va_P G vwCl (ph_w n cA ad S h) H → va_D A (ph_w n cA ad S h) → va_S A s.heap H locs → lv_has ls nL lv → vx_Run p l e R s m args below meth c H locs cells slots rm2.cells rm2.slots (F0 m pc ls stk) st (Qa H.size) (gXX (G, cA) ad n S h px H.size) (va_A (ph_w n cA ad S h) H.size)
section GCALL
variable {X : fj_X} {Y : fj_Y} {l0 : Launch} {cc : ByteArray} {nL : Nat} {own : String} {rm : Room} {mc ms : Nat} {ret : Option FieldType} {ad : Nat → Nat} {n : Nat} {S : ph_S} {h : ph_H} {pc : Nat} {lv : List (Nat × Value)} {stk st : List Value}
variable {y : MethodName} {c2 : ByteArray} {maxL2 ix : Nat} {ret2 : Option FieldType} {rm2 : Room} {av : List Value} {Qc : Nat → Array Value → State → Outcome → State → Prop}
theorem gFc {G : va_G} {cA : Nat → ClassId} {A : Nat → Prop} {H0 H : Heap} {locs : List Loc} (hD : va_D A (ph_w n cA ad S h)) (hS : va_S A H0 H locs) (hA : ∀ q, H0.size ≤ q → A q) : ∀ q, va_A (ph_w n cA ad S h) H.size q → A q := fun q hq => by
  rcases hq with ⟨k, e, hq⟩ | hq
  · exact hD.2 k _ hq
  · exact hA q (Nat.le_trans hS.1 hq)
theorem gPre {G : va_G} {cA : Nat → ClassId} {A : Nat → Prop} {s : State} {H : Heap} {locs : List Loc} (E : EN A s) (hP : va_P G vwCl (ph_w n cA ad S h) H) (hK : va_K G vwCl (tyl cA) s) (hD : va_D A (ph_w n cA ad S h)) (hS : va_S A s.heap H locs) (hA : ∀ q, s.heap.size ≤ q → A q) (av : List Value) : ∀ U : State, U.heap = H → s.WarmedH U.vm → gPc (G, cA) ad n S h av H.size av.toArray U := fun U hU hW => by
  refine ⟨rfl, by rw [hU], ⟨by rw [hU]; exact hP, va_K.moved hW.alike hK, hD.weaken (fun _ _ _ _ => trivial)⟩, ?_⟩
  subst hU
  exact E.warm hW hS (gFc (G := G) hD hS hA)
theorem gr_V (C : FC X Y l0 cc nL own rm mc ms ret) (E : FE X) {k0 ci nf : Nat} {rf : Nat → Option (Option Nat)} {T : u_T} (hM : GM l0 y (.code y c2 maxL2 ret2) rm2 Y ad n S h (.ref (ad k0) :: av) Qc) (hd : decode cc pc = .ok (.invokevirtual ix, 3)) (hk : CK rm y c2 maxL2 ret2 rm2 av.length) (hf : mc + rm2.cells ≤ rm.cells ∧ ms + rm2.slots ≤ rm.slots) (hlink : Cond.methodLink own ix y ∈ TW) (hins : Cond.instanceMethod y ∈ TW) (hsel : Cond.selects y.cls y y ∈ TW) (hk0 : k0 < n) (hS0 : S k0 = .inr (.inl (ci, nf, rf))) (hcl : vwCl[ci]? = some (y.cls, T, nf)) (hstk : stk = av.reverse ++ .ref (ad k0) :: st) (hroom : (st.map fun v => v.category).sum ≤ 8) : GRun X Y ad n S h pc lv stk st rm2 (fun sz => Qc sz (Value.ref (ad k0) :: av).toArray) := by
  obtain ⟨⟨p, l, e, R⟩, ⟨s, m, args, below, meth, c⟩, ⟨cells, slots, Q⟩, ⟨nL', A⟩⟩ := X
  obtain ⟨G, cA⟩ := Y
  obtain ⟨hx, hb, hml, hown, hts, hK, hlk, hR, hce, hsl, hnl, hret, htr, hmc, hms, hA⟩ := C
  subst hstk hR hce hsl hnl htr
  intro H locs ls hP hD hS hl
  have hrc := va_recv hK hP hcl (q0 := k0) (a := ad k0) (fs := (List.range nf).map (ph_f ad rf (h k0))) (by rw [ph_at hk0, hS0]; rfl)
  exact va_runV (As := av) (rest := st) ⟨hx, hb, hml, hown, hts⟩ (hM H.size) ⟨hk.B hts hlink, hts _ hins, hts _ hsel⟩ ⟨gPc_blind, hrc, gPre E hP hK hD hS hA _⟩ rfl rfl hl.1 rfl (lv_room hroom) hd hf
theorem gr_S (C : FC X Y l0 cc nL own rm mc ms ret) (E : FE X) (hM : GM l0 y (.code y c2 maxL2 ret2) rm2 Y ad n S h av Qc) (hd : decode cc pc = .ok (.invokestatic ix, 3)) (hk : CK rm y c2 maxL2 ret2 rm2 av.length) (hf : mc + rm2.cells ≤ rm.cells ∧ ms + rm2.slots ≤ rm.slots) (hlink : Cond.methodLink own ix y ∈ TW) (hst : Cond.static y ∈ TW) (hstk : stk = av.reverse ++ st) (hroom : (st.map fun v => v.category).sum ≤ 8) : GRun X Y ad n S h pc lv stk st rm2 (fun sz => Qc sz av.toArray) := by
  obtain ⟨⟨p, l, e, R⟩, ⟨s, m, args, below, meth, c⟩, ⟨cells, slots, Q⟩, ⟨nL', A⟩⟩ := X
  obtain ⟨G, cA⟩ := Y
  obtain ⟨hx, hb, hml, hown, hts, hK, hlk, hR, hce, hsl, hnl, hret, htr, hmc, hms, hA⟩ := C
  subst hstk hR hce hsl hnl htr
  intro H locs ls hP hD hS hl
  exact va_runS (As := av) (rest := st) ⟨hx, hb, hml, hown, hts⟩ (hM H.size) ⟨hk.B hts hlink, hts _ hst⟩ ⟨gPc_blind, gPre E hP hK hD hS hA _⟩ rfl rfl hl.1 rfl (lv_room hroom) hd hf
/-- a constructor -/
theorem gr_I (C : FC X Y l0 cc nL own rm mc ms ret) (E : FE X) {b : Nat} (hM : GM l0 y (.code y c2 maxL2 none) rm2 Y ad n S h (.ref b :: av) Qc) (hd : decode cc pc = .ok (.invokespecial ix, 3)) (hk : CK rm y c2 maxL2 none rm2 av.length) (hf : mc + rm2.cells ≤ rm.cells ∧ ms + rm2.slots ≤ rm.slots) (hlink : Cond.methodLink own ix y ∈ TW) (hins : Cond.instanceMethod y ∈ TW) (hnm : y.name = "<init>") (hstk : stk = av.reverse ++ .ref b :: st) (hroom : (st.map fun v => v.category).sum ≤ 8) : GRun X Y ad n S h pc lv stk st rm2 (fun sz => Qc sz (Value.ref b :: av).toArray) := by
  obtain ⟨⟨p, l, e, R⟩, ⟨s, m, args, below, meth, c⟩, ⟨cells, slots, Q⟩, ⟨nL', A⟩⟩ := X
  obtain ⟨G, cA⟩ := Y
  obtain ⟨hx, hb, hml, hown, hts, hK, hlk, hR, hce, hsl, hnl, hret, htr, hmc, hms, hA⟩ := C
  subst hstk hR hce hsl hnl htr
  intro H locs ls hP hD hS hl
  exact va_runI (As := av) (rest := st) ⟨hx, hb, hml, hown, hts⟩ (hM H.size) ⟨hk.B hts hlink, hnm, hts _ hins⟩ ⟨gPc_blind, gPre E hP hK hD hS hA _⟩ rfl rfl hl.1 rfl (lv_room hroom) hd hf
theorem CK.Bn {R : Room} {s : State} {args : Array Value} {host : String} {k : Nat} (q : CK R y c2 maxL2 ret2 rm2 k) (hts : ∀ w ∈ TW, w.before args s = true) (hl : va_Nw (.methodLinkNest own ix y host) s) : va_CN R s args own ix y host c2 maxL2 ret2 (Cond.code y c2 maxL2 ret2 :: TW) rm2 rm2.cells rm2.slots k := by
  obtain ⟨hc, hi, hy, hk, h1, h2⟩ := q
  refine va_cnB (Ts := TW) (ws' := TW) k hts (fun w hw => ?_) rfl rfl rfl hl (hts _ hi) ⟨hy.1, hy.2, hk⟩ ⟨h1, h2⟩
  rcases List.mem_cons.mp hw with e | e
  · rw [e]; exact TW_good _ hc
  · exact TW_good _ e
theorem gr_IN (C : FC X Y l0 cc nL own rm mc ms ret) (E : FE X) {b : Nat} {host : String} (hM : GM l0 y (.code y c2 maxL2 none) rm2 Y ad n S h (.ref b :: av) Qc) (hd : decode cc pc = .ok (.invokespecial ix, 3)) (hk : CK rm y c2 maxL2 none rm2 av.length) (hf : mc + rm2.cells ≤ rm.cells ∧ ms + rm2.slots ≤ rm.slots) (hlink : (own, ix, y, host) ∈ enM) (hins : Cond.instanceMethod y ∈ TW) (hnm : y.name = "<init>") (hstk : stk = av.reverse ++ .ref b :: st) (hroom : (st.map fun v => v.category).sum ≤ 8) : GRun X Y ad n S h pc lv stk st rm2 (fun sz => Qc sz (Value.ref b :: av).toArray) := by
  obtain ⟨⟨p, l, e, R⟩, ⟨s, m, args, below, meth, c⟩, ⟨cells, slots, Q⟩, ⟨nL', A⟩⟩ := X
  obtain ⟨G, cA⟩ := Y
  obtain ⟨hx, hb, hml, hown, hts, hK, hlk, hR, hce, hsl, hnl, hret, htr, hmc, hms, hA⟩ := C
  subst hstk hR hce hsl hnl htr
  intro H locs ls hP hD hS hl
  exact va_runIN (As := av) (rest := st) ⟨hx, hb, hml, hown, hts⟩ (hM H.size) ⟨hk.Bn hts (E.1 _ hlink), hnm, hts _ hins⟩ ⟨gPc_blind, gPre E hP hK hD hS hA _⟩ rfl rfl hl.1 rfl (lv_room hroom) hd hf
/-- a private static method of a nest mate, that makes nothing -/
theorem j_callSN (C : FC X Y l0 cc nL own rm mc ms ret) (E : FE X) {host : String} {post : Int32 → ph_S → ph_H → Prop} (hM : MI l0 y c2 maxL2 ret2 rm2 Y ad n S h av post) (hd : decode cc pc = .ok (.invokestatic ix, 3)) (hk : CK rm y c2 maxL2 ret2 rm2 av.length) (h0 : rm2.cells = 0 ∧ rm2.slots = 0) (hlink : (own, ix, y, host) ∈ enM) (hst : Cond.static y ∈ TW) (hstk : stk = av.reverse ++ st) (hroom : (st.map fun v => v.category).sum ≤ 8) (kk : ∀ r S' h', post r S' h' → FJ X Y ad n S' h' (pc + 3) lv (.int r :: st)) : FJ X Y ad n S h pc lv stk := by
  obtain ⟨⟨p, l, e, R⟩, ⟨s, m, args, below, meth, c⟩, ⟨cells, slots, Q⟩, ⟨nL', A⟩⟩ := X
  obtain ⟨G, cA⟩ := Y
  obtain ⟨hx, hb, hml, hown, hts, hK, hlk, hR, hce, hsl, hnl, hret, htr, hmc, hms, hA⟩ := C
  subst hstk hR hce hsl hnl htr
  intro H locs ls hP hD hS hl
  have hFc := gFc (G := G) hD hS hA
  refine va_calli (va_runSN (As := av) (rest := st) ⟨hx, hb, hml, hown, hts⟩ (hM H.size) ⟨hk.Bn hts (E.1 _ hlink), hts _ hst, trivial⟩ ⟨wPc_blind, fun U hU hW => ⟨rfl, by rw [hU], by rw [hU]; exact hP, va_K.moved hW.alike hK, hD.weaken (fun _ _ _ _ => trivial)⟩⟩ rfl rfl hl.1 rfl (lv_room hroom) hd ⟨by rw [h0.1]; exact hmc, by rw [h0.2]; exact hms⟩) hS (fun q _ hq => hFc q hq) hFc (fun r u t H1 locs1 ht hvm hp hB hz1 hk1 hS1 => ?_)
  obtain ⟨hP1, hK1, hD1⟩ := hB
  rw [ht] at hP1
  rw [h0.1, h0.2]
  exact kk r u.1 u.2 hp H1 locs1 ls hP1 (hD1.weaken (fun _ _ _ hq => hFc _ hq)) hS1 hl
/-- what a call through a class's method, that a subclass has or overrides, asks -/
def CU (own : String) (ix : Nat) (x y : MethodName) (Cn : String) : Prop := Cond.methodLink own ix x ∈ TW ∧ Cond.sameMethod x.cls x.cls x.name x.desc ∈ TW ∧ Cond.instanceMethod x ∈ TW ∧ (∃ b0 m0 r0, Cond.code x b0 m0 r0 ∈ TW) ∧ Cond.selects Cn x y ∈ TW ∧ Cond.instanceMethod y ∈ TW ∧ (x.cls ≠ "java/lang/invoke/MethodHandle" ∧ x.cls ≠ "java/lang/invoke/VarHandle") ∧ x.desc = y.desc
theorem CK.Bu {R : Room} {s : State} {args : Array Value} {x : MethodName} {Cn : String} {k : Nat} (q : CK R y c2 maxL2 ret2 rm2 k) (u : CU own ix x y Cn) (hts : ∀ w ∈ TW, w.before args s = true) : va_CU R s args own Cn x.cls ix x y c2 maxL2 ret2 (Cond.code y c2 maxL2 ret2 :: TW) rm2 rm2.cells rm2.slots k := by
  obtain ⟨hc, hi, hy, hk, h1, h2⟩ := q
  obtain ⟨u1, u2, u3, ⟨b0, m0, r0, u4⟩, u5, u6, u7, u8⟩ := u
  refine ⟨⟨rfl, rfl, h1, h2, pay_in (big := TW) hts (fun w hw => ?_), List.mem_cons_self⟩, hts _ hc, hts _ hi, u7, fun sig hs => ?_, hts _ u1, hts _ u2, va_Decl.of (hts _ u3) (hts _ u4), hts _ u5, hts _ u6⟩
  · rcases List.mem_cons.mp hw with e | e
    · rw [e]; exact TW_good _ hc
    · exact TW_good _ e
  · rw [← u8, hs] at hk
    exact (Option.some.inj hk).symm
theorem gr_U (C : FC X Y l0 cc nL own rm mc ms ret) (E : FE X) {x : MethodName} {Cn : String} {k0 ci nf : Nat} {rf : Nat → Option (Option Nat)} {T : u_T} (hM : GM l0 y (.code y c2 maxL2 ret2) rm2 Y ad n S h (.ref (ad k0) :: av) Qc) (hd : decode cc pc = .ok (.invokevirtual ix, 3)) (hk : CK rm y c2 maxL2 ret2 rm2 av.length) (hf : mc + rm2.cells ≤ rm.cells ∧ ms + rm2.slots ≤ rm.slots) (hu : CU own ix x y Cn) (hk0 : k0 < n) (hS0 : S k0 = .inr (.inl (ci, nf, rf))) (hcl : vwCl[ci]? = some (Cn, T, nf)) (hstk : stk = av.reverse ++ .ref (ad k0) :: st) (hroom : (st.map fun v => v.category).sum ≤ 8) : GRun X Y ad n S h pc lv stk st rm2 (fun sz => Qc sz (Value.ref (ad k0) :: av).toArray) := by
  obtain ⟨⟨p, l, e, R⟩, ⟨s, m, args, below, meth, c⟩, ⟨cells, slots, Q⟩, ⟨nL', A⟩⟩ := X
  obtain ⟨G, cA⟩ := Y
  obtain ⟨hx, hb, hml, hown, hts, hK, hlk, hR, hce, hsl, hnl, hret, htr, hmc, hms, hA⟩ := C
  subst hstk hR hce hsl hnl htr
  intro H locs ls hP hD hS hl
  have hrc := va_recv hK hP hcl (q0 := k0) (a := ad k0) (fs := (List.range nf).map (ph_f ad rf (h k0))) (by rw [ph_at hk0, hS0]; rfl)
  exact va_runU (As := av) (rest := st) ⟨hx, hb, hml, hown, hts⟩ (hM H.size) (hk.Bu hu hts) ⟨gPc_blind, hrc, gPre E hP hK hD hS hA _⟩ rfl rfl hl.1 rfl (lv_room hroom) hd hf
/-- super.m(..) -/
theorem gr_SU (C : FC X Y l0 cc nL own rm mc ms ret) (E : FE X) {k0 ci nf : Nat} {rf : Nat → Option (Option Nat)} {Cn : String} {T : u_T} (hM : GM l0 y (.code y c2 maxL2 ret2) rm2 Y ad n S h (.ref (ad k0) :: av) Qc) (hd : decode cc pc = .ok (.invokespecial ix, 3)) (hk : CK rm y c2 maxL2 ret2 rm2 av.length) (hf : mc + rm2.cells ≤ rm.cells ∧ ms + rm2.slots ≤ rm.slots) (hlink : Cond.methodLink own ix y ∈ TW) (hsame : Cond.sameMethod y.cls y.cls y.name y.desc ∈ TW) (hsup : Cond.superclass own y.cls ∈ TW) (hins : Cond.instanceMethod y ∈ TW) (hno : y.name ≠ "<init>") (hk0 : k0 < n) (hS0 : S k0 = .inr (.inl (ci, nf, rf))) (hcl : vwCl[ci]? = some (Cn, T, nf)) (hstk : stk = av.reverse ++ .ref (ad k0) :: st) (hroom : (st.map fun v => v.category).sum ≤ 8) : GRun X Y ad n S h pc lv stk st rm2 (fun sz => Qc sz (Value.ref (ad k0) :: av).toArray) := by
  obtain ⟨⟨p, l, e, R⟩, ⟨s, m, args, below, meth, c⟩, ⟨cells, slots, Q⟩, ⟨nL', A⟩⟩ := X
  obtain ⟨G, cA⟩ := Y
  obtain ⟨hx, hb, hml, hown, hts, hK, hlk, hR, hce, hsl, hnl, hret, htr, hmc, hms, hA⟩ := C
  subst hstk hR hce hsl hnl htr
  intro H locs ls hP hD hS hl
  have hrc := va_recv hK hP hcl (q0 := k0) (a := ad k0) (fs := (List.range nf).map (ph_f ad rf (h k0))) (by rw [ph_at hk0, hS0]; rfl)
  obtain ⟨hc, hi, hy, hkl, h1, h2⟩ := hk
  refine va_runSU (As := av) (rest := st) (hK.1 ci _ hcl).2 ⟨hx, hb, hml, hown, hts⟩ (hM H.size) ⟨⟨rfl, rfl, h1, h2, pay_in (big := TW) hts (fun w hw => ?_), List.mem_cons_self⟩, hts _ hlink, hts _ hsame, hts _ hsup, hts _ hins, hts _ hi, hts _ hc, hno, fun sig hs => ?_⟩ ⟨gPc_blind, hrc, gPre E hP hK hD hS hA _⟩ rfl rfl hl.1 rfl (lv_room hroom) hd hf
  · rcases List.mem_cons.mp hw with e | e
    · rw [e]; exact TW_good _ hc
    · exact TW_good _ e
  · rw [hs] at hkl
    exact (Option.some.inj hkl).symm
/-! what a call goes on with -/
theorem j_gi (C : FC X Y l0 cc nL own rm mc ms ret) {post : Int32 → gU → Prop} {a : Array Value} (hr : GRun X Y ad n S h pc lv stk st rm2 (fun sz => gQi Y ad n S h post sz a)) (kk : ∀ r u, post r u → FJ (xg X rm2.cells rm2.slots) Y u.2.1 u.1 u.2.2.1 u.2.2.2 (pc + 3) lv (.int r :: st)) : FJ X Y ad n S h pc lv stk := by
  obtain ⟨⟨p, l, e, R⟩, ⟨s, m, args, below, meth, c⟩, ⟨cells, slots, Q⟩, ⟨nL', A⟩⟩ := X
  obtain ⟨G, cA⟩ := Y
  obtain ⟨hx, hb, hml, hown, hts, hK, hlk, hR, hce, hsl, hnl, hret, htr, hmc, hms, hA⟩ := C
  intro H locs ls hP hD hS hl
  have hFc := gFc (G := G) hD hS hA
  refine va_calli (hr H locs ls hP hD hS hl) hS (fun q _ hq => hFc q hq) hFc (fun r u t H1 locs1 ht hvm hp hB hz1 hk1 hS1 => ?_)
  obtain ⟨hP1, hK1, hD1⟩ := hB
  rw [ht] at hP1
  exact kk r u hp H1 locs1 ls hP1 (hD1.weaken (fun _ _ _ hq => hFc _ hq)) hS1 hl
theorem j_gv (C : FC X Y l0 cc nL own rm mc ms ret) {post : gU → Prop} {a : Array Value} (hr : GRun X Y ad n S h pc lv stk st rm2 (fun sz => gQv Y ad n S h post sz a)) (kk : ∀ u, post u → FJ (xg X rm2.cells rm2.slots) Y u.2.1 u.1 u.2.2.1 u.2.2.2 (pc + 3) lv st) : FJ X Y ad n S h pc lv stk := by
  obtain ⟨⟨p, l, e, R⟩, ⟨s, m, args, below, meth, c⟩, ⟨cells, slots, Q⟩, ⟨nL', A⟩⟩ := X
  obtain ⟨G, cA⟩ := Y
  obtain ⟨hx, hb, hml, hown, hts, hK, hlk, hR, hce, hsl, hnl, hret, htr, hmc, hms, hA⟩ := C
  intro H locs ls hP hD hS hl
  have hFc := gFc (G := G) hD hS hA
  refine va_callv (hr H locs ls hP hD hS hl) hS (fun q _ hq => hFc q hq) hFc (fun u t H1 locs1 ht hvm hp hB hz1 hk1 hS1 => ?_)
  obtain ⟨hP1, hK1, hD1⟩ := hB
  rw [ht] at hP1
  exact kk u hp H1 locs1 ls hP1 (hD1.weaken (fun _ _ _ hq => hFc _ hq)) hS1 hl
theorem j_gr (C : FC X Y l0 cc nL own rm mc ms ret) {post : Option Nat → gU → Prop} {a : Array Value} (hr : GRun X Y ad n S h pc lv stk st rm2 (fun sz => gQr Y ad n S h post sz a)) (kk : ∀ k u, post k u → FJ (xg X rm2.cells rm2.slots) Y u.2.1 u.1 u.2.2.1 u.2.2.2 (pc + 3) lv (va_rf (k.map u.2.1) :: st)) : FJ X Y ad n S h pc lv stk := by
  obtain ⟨⟨p, l, e, R⟩, ⟨s, m, args, below, meth, c⟩, ⟨cells, slots, Q⟩, ⟨nL', A⟩⟩ := X
  obtain ⟨G, cA⟩ := Y
  obtain ⟨hx, hb, hml, hown, hts, hK, hlk, hR, hce, hsl, hnl, hret, htr, hmc, hms, hA⟩ := C
  intro H locs ls hP hD hS hl
  have hFc := gFc (G := G) hD hS hA
  refine va_callq (hr H locs ls hP hD hS hl) hS (fun q _ hq => hFc q hq) hFc (fun r u t H1 locs1 ht hvm hp hB hz1 hk1 hS1 => ?_)
  obtain ⟨hP1, hK1, hD1⟩ := hB
  obtain ⟨k, rfl, hp⟩ := hp
  rw [ht] at hP1
  exact kk k u hp H1 locs1 ls hP1 (hD1.weaken (fun _ _ _ hq => hFc _ hq)) hS1 hl
end GCALL
