/-! CALLS OF THE LAW -/
section LCALL
variable {X : lj_X} {Y : fj_Y} {cL : ClassId} {cells slots : Nat} {pc : Nat} {lv : List (Nat × Value)} {stk st : List Value}
variable {y : MethodName} {c2 : ByteArray} {maxL2 ix : Nat} {ret2 : Option FieldType} {rm2 : Room} {av : List Value}
variable {n : Nat} {ad : Nat → Nat} {S : ph_S} {h : ph_H} {adm : Nat → Nat} {hm : ph_H} {o : Nat} {f : Nat → Int64}
theorem lw_kept {Y : fj_Y} {m : Nat} {ad : Nat → Nat} {S : ph_S} {h : ph_H} {H H1 : Heap} {A1 : Nat → Prop} (w : va_P Y.1 vwCl (ph_w m Y.2 ad S h) H) (hk : ∀ q : Nat, q < H.size → ¬ A1 q → H1[q]? = H[q]?) (hn : ∀ j, j < m → ¬ A1 (ad j)) : va_P Y.1 vwCl (ph_w m Y.2 ad S h) H1 := phP.mpr (fun j hj => (phP.mp w j hj).kept (hk _ ((phP.mp w j hj).lt) (hn j hj)))
theorem lo_kept {Y : fj_Y} {x : va_E} {o : Nat} {H H1 : Heap} {A1 : Nat → Prop} (w : va_P Y.1 vwCl [(o, x)] H) (hk : ∀ q : Nat, q < H.size → ¬ A1 q → H1[q]? = H[q]?) (hn : ¬ A1 o) : va_P Y.1 vwCl [(o, x)] H1 := w.kept (fun k q hq => by
  have h0 : k < 1 := (List.getElem?_eq_some_iff.mp hq).1
  have e : k = 0 := by omega
  subst e
  cases hq
  exact hk o ((w 0 _ rfl).lt) hn)
theorem lo_lt {Y : fj_Y} {x : va_E} {o : Nat} {H : Heap} (w : va_P Y.1 vwCl [(o, x)] H) : o < H.size := (w 0 _ rfl).lt
/-- a method of the class that makes nothing -/
theorem l_callC (C : LC X Y cL) {post : Int32 → ph_S → ph_H → Prop} (hM : MI X.1.2.1 y c2 maxL2 ret2 rm2 Y ad 60 S h (.ref (ad 0) :: av) post) (hd : decode code pc = .ok (.invokevirtual ix, 3)) (hk : CK room_1 y c2 maxL2 ret2 rm2 av.length) (h0 : rm2.cells = 0 ∧ rm2.slots = 0) (hlink : Cond.methodLink R_law ix y ∈ TW) (hins : Cond.instanceMethod y ∈ TW) (hsel : Cond.selects y.cls y y ∈ TW) (h60 : 60 ≤ n) (hS0 : S 0 = .inr (.inl (10, 13, rfC_0))) (hcl : vwCl[10]? = some (y.cls, TX11, 13)) (hpS : ∀ r S' h', post r S' h' → ∀ k, 60 ≤ k → S' k = S k) (hstk : stk = av.reverse ++ .ref (ad 0) :: st) (hroom : (st.map fun v => v.category).sum ≤ 8) (hc : cells ≤ 601024 ∧ slots ≤ 7293034)
    (kk : ∀ r S' h', post r S' h' → LJ X Y cL ((n, ad, S', hcut 60 h' h), (adm, hm), (o, f)) cells slots (pc + 3) lv (.int r :: st)) : LJ X Y cL ((n, ad, S, h), (adm, hm), (o, f)) cells slots pc lv stk := by
  obtain ⟨⟨p, l, e⟩, ⟨s, m, below, meth, c⟩, ⟨b, L, xs⟩⟩ := X
  obtain ⟨hx, hb, hret, hml, hown, hts, hX, hbl, hlk, hL, htr, hE, hK, hK2⟩ := C
  subst hstk
  intro H locs ls hW hS hl
  obtain ⟨w1, w2, w3, i1, i2, a1, a2, a3, d1, d2, d3⟩ := hW
  have hP0 : va_P Y.1 vwCl (ph_w 60 Y.2 ad S h) H := phP.mpr (fun k hk => phP.mp w1 k (Nat.lt_of_lt_of_le hk h60))
  have hD0 : va_D (fun _ => True) (ph_w n Y.2 ad S h) := phD.mpr ⟨i1, fun _ _ => trivial⟩
  have hD6 : va_D (fun _ => True) (ph_w 60 Y.2 ad S h) := phD.mpr ⟨fun i j hi hj q => i1 i j (Nat.lt_of_lt_of_le hi h60) (Nat.lt_of_lt_of_le hj h60) q, fun _ _ => trivial⟩
  have hA1 : ∀ q, va_A (ph_w 60 Y.2 ad S h) H.size q → s.heap.size ≤ q := fun q hq => by
    rcases phA.mp hq with ⟨k, hk, rfl⟩ | hq
    · exact a1 k (Nat.lt_of_lt_of_le hk h60)
    · exact Nat.le_trans hS.1 hq
  have hrc := va_recv hK hP0 hcl (q0 := 0) (a := ad 0) (fs := (List.range 13).map (ph_f ad rfC_0 (h 0))) (by rw [ph_at (by decide), hS0]; rfl)
  refine va_calli (va_runV (As := av) (rest := st) ⟨hx, hb, hml, hown, hts⟩ (hM H.size) ⟨hk.B hts hlink, hts _ hins, hts _ hsel⟩ ⟨wPc_blind, hrc, fun U hU hWm => ⟨rfl, by rw [hU], by rw [hU]; exact hP0, va_K.moved hWm.alike hK, hD6⟩⟩ rfl rfl hl.1 rfl (lv_room hroom) hd ⟨by rw [h0.1]; exact hc.1, by rw [h0.2]; exact hc.2⟩) hS (fun q _ hq => hA1 q hq) hA1 (fun r u t H1 locs1 ht hvm hp hB hz1 hk1 hS1 => ?_)
  obtain ⟨hP1, hK1, hD1⟩ := hB
  rw [ht] at hP1
  rw [h0.1, h0.2]
  obtain ⟨j1, j2⟩ := cut_join h60 w1 hD0 hP1 hk1 (hpS r u.1 u.2 hp)
  have nM : ∀ j, j < 50 → ¬ va_A (ph_w 60 Y.2 ad S h) H.size (adm j) := fun j hj z => by
    rcases phA.mp z with ⟨k, hk, e⟩ | z
    · exact d1 k j (Nat.lt_of_lt_of_le hk h60) hj e.symm
    · exact absurd ((phP.mp w2 j hj).lt) (Nat.not_lt.mpr z)
  have nO : ¬ va_A (ph_w 60 Y.2 ad S h) H.size o := fun z => by
    rcases phA.mp z with ⟨k, hk, e⟩ | z
    · exact d2 k (Nat.lt_of_lt_of_le hk h60) e.symm
    · exact absurd (lo_lt w3) (Nat.not_lt.mpr z)
  exact kk r u.1 u.2 hp H1 locs1 ls ⟨j1, lw_kept w2 hk1 nM, lo_kept w3 hk1 nO, i1, i2, a1, a2, a3, d1, d2, d3⟩ hS1 hl
/-- a method of the class that makes objects -/
theorem l_callG (C : LC X Y cL) {post : Int32 → gU → Prop} (hM : GM X.1.2.1 y (.code y c2 maxL2 ret2) rm2 Y ad n S h (.ref (ad 0) :: av) (gQi Y ad n S h post)) (hd : decode code pc = .ok (.invokevirtual ix, 3)) (hk : CK room_1 y c2 maxL2 ret2 rm2 av.length) (hlink : Cond.methodLink R_law ix y ∈ TW) (hins : Cond.instanceMethod y ∈ TW) (hsel : Cond.selects y.cls y y ∈ TW) (h60 : 60 ≤ n) (hS0 : S 0 = .inr (.inl (10, 13, rfC_0))) (hcl : vwCl[10]? = some (y.cls, TX11, 13)) (hstk : stk = av.reverse ++ .ref (ad 0) :: st) (hroom : (st.map fun v => v.category).sum ≤ 8) (hc : cells + rm2.cells ≤ 601024 ∧ slots + rm2.slots ≤ 7293034)
    (kk : ∀ r u, post r u → LJ X Y cL (u, (adm, hm), (o, f)) (cells + rm2.cells) (slots + rm2.slots) (pc + 3) lv (.int r :: st)) : LJ X Y cL ((n, ad, S, h), (adm, hm), (o, f)) cells slots pc lv stk := by
  obtain ⟨⟨p, l, e⟩, ⟨s, m, below, meth, c⟩, ⟨b, L, xs⟩⟩ := X
  obtain ⟨hx, hb, hret, hml, hown, hts, hX, hbl, hlk, hL, htr, hE, hK, hK2⟩ := C
  subst hstk
  intro H locs ls hW hS hl
  obtain ⟨w1, w2, w3, i1, i2, a1, a2, a3, d1, d2, d3⟩ := hW
  have hD0 : va_D (fun q => s.heap.size ≤ q) (ph_w n Y.2 ad S h) := phD.mpr ⟨i1, a1⟩
  have hA1 : ∀ q, va_A (ph_w n Y.2 ad S h) H.size q → s.heap.size ≤ q := gFc (G := Y.1) hD0 hS (fun _ q => q)
  have w1 : va_P Y.1 vwCl (ph_w n Y.2 ad S h) H := w1
  have hrc := va_recv hK w1 hcl (q0 := 0) (a := ad 0) (fs := (List.range 13).map (ph_f ad rfC_0 (h 0))) (by rw [ph_at (Nat.lt_of_lt_of_le (by decide) h60), hS0]; rfl)
  refine va_calli (va_runV (As := av) (rest := st) ⟨hx, hb, hml, hown, hts⟩ (hM H.size) ⟨hk.B hts hlink, hts _ hins, hts _ hsel⟩ ⟨gPc_blind, hrc, gPre hE w1 hK hD0 hS (fun _ q => q) _⟩ rfl rfl hl.1 rfl (lv_room hroom) hd hc) hS (fun q _ hq => hA1 q hq) hA1 (fun r u t H1 locs1 ht hvm hp hB hz1 hk1 hS1 => ?_)
  obtain ⟨hP1, hK1, hD1⟩ := hB
  rw [ht] at hP1
  obtain ⟨u1, u2⟩ := phD.mp hD1
  have nM : ∀ j, j < 50 → ¬ va_A (ph_w n Y.2 ad S h) H.size (adm j) := fun j hj z => by
    rcases phA.mp z with ⟨k, hk, e⟩ | z
    · exact d1 k j hk hj e.symm
    · exact absurd ((phP.mp w2 j hj).lt) (Nat.not_lt.mpr z)
  have nO : ¬ va_A (ph_w n Y.2 ad S h) H.size o := fun z => by
    rcases phA.mp z with ⟨k, hk, e⟩ | z
    · exact d2 k hk e.symm
    · exact absurd (lo_lt w3) (Nat.not_lt.mpr z)
  exact kk r u hp H1 locs1 ls ⟨hP1, lw_kept w2 hk1 nM, lo_kept w3 hk1 nO, u1, i2, fun k hk => hA1 _ (u2 k hk), a2, a3, fun i j hi hj e => nM j hj (by have e : u.2.1 i = adm j := e; rw [← e]; exact u2 i hi), fun i hi e => nO (by have e : u.2.1 i = o := e; rw [← e]; exact u2 i hi), d3⟩ hS1 hl
/-- a method of the reference -/
theorem l_callM (C : LC X Y cL) {post : Int32 → ph_S → ph_H → Prop} (hM : MI X.1.2.1 y c2 maxL2 ret2 rm2 Y adm 50 SM hm (.ref (adm 0) :: av) post) (hd : decode code pc = .ok (.invokevirtual ix, 3)) (hk : CK room_1 y c2 maxL2 ret2 rm2 av.length) (h0 : rm2.cells = 0 ∧ rm2.slots = 0) (hlink : Cond.methodLink R_law ix y ∈ TW) (hins : Cond.instanceMethod y ∈ TW) (hsel : Cond.selects y.cls y y ∈ TW) (hcl : vwCl[11]? = some (y.cls, TX12, 83)) (hpS : ∀ r S' h', post r S' h' → S' = SM) (hstk : stk = av.reverse ++ .ref (adm 0) :: st) (hroom : (st.map fun v => v.category).sum ≤ 8) (hc : cells ≤ 601024 ∧ slots ≤ 7293034)
    (kk : ∀ r S' h', post r S' h' → LJ X Y cL ((n, ad, S, h), (adm, h'), (o, f)) cells slots (pc + 3) lv (.int r :: st)) : LJ X Y cL ((n, ad, S, h), (adm, hm), (o, f)) cells slots pc lv stk := by
  obtain ⟨⟨p, l, e⟩, ⟨s, m, below, meth, c⟩, ⟨b, L, xs⟩⟩ := X
  obtain ⟨hx, hb, hret, hml, hown, hts, hX, hbl, hlk, hL, htr, hE, hK, hK2⟩ := C
  subst hstk
  intro H locs ls hW hS hl
  obtain ⟨w1, w2, w3, i1, i2, a1, a2, a3, d1, d2, d3⟩ := hW
  have hD0 : va_D (fun q => s.heap.size ≤ q) (ph_w 50 Y.2 adm SM hm) := phD.mpr ⟨i2, a2⟩
  have hA1 : ∀ q, va_A (ph_w 50 Y.2 adm SM hm) H.size q → s.heap.size ≤ q := gFc (G := Y.1) hD0 hS (fun _ q => q)
  have hrc := va_recv hK w2 hcl (q0 := 0) (a := adm 0) (fs := (List.range 83).map (ph_f adm rfM (hm 0))) (by rw [ph_at (by decide)]; rfl)
  refine va_calli (va_runV (As := av) (rest := st) ⟨hx, hb, hml, hown, hts⟩ (hM H.size) ⟨hk.B hts hlink, hts _ hins, hts _ hsel⟩ ⟨wPc_blind, hrc, fun U hU hWm => ⟨rfl, by rw [hU], by rw [hU]; exact w2, va_K.moved hWm.alike hK, hD0.weaken (fun _ _ _ _ => trivial)⟩⟩ rfl rfl hl.1 rfl (lv_room hroom) hd ⟨by rw [h0.1]; exact hc.1, by rw [h0.2]; exact hc.2⟩) hS (fun q _ hq => hA1 q hq) hA1 (fun r u t H1 locs1 ht hvm hp hB hz1 hk1 hS1 => ?_)
  obtain ⟨hP1, hK1, hD1⟩ := hB
  rw [ht, hpS r u.1 u.2 hp] at hP1
  rw [h0.1, h0.2]
  have nC : ∀ j, j < n → ¬ va_A (ph_w 50 Y.2 adm SM hm) H.size (ad j) := fun j hj z => by
    rcases phA.mp z with ⟨k, hk, e⟩ | z
    · exact d1 j k hj hk e
    · exact absurd ((phP.mp w1 j hj).lt) (Nat.not_lt.mpr z)
  have nO : ¬ va_A (ph_w 50 Y.2 adm SM hm) H.size o := fun z => by
    rcases phA.mp z with ⟨k, hk, e⟩ | z
    · exact d3 k hk e.symm
    · exact absurd (lo_lt w3) (Nat.not_lt.mpr z)
  exact kk r u.1 u.2 hp H1 locs1 ls ⟨lw_kept w1 hk1 nC, hP1, lo_kept w3 hk1 nO, i1, i2, a1, a2, a3, d1, d2, d3⟩ hS1 hl
end LCALL
/-! HELPERS round the calls that throw: 0 and the answer in 'out', 1 IllegalArgumentException, 2 IllegalStateException -/
def hA (Y : fj_Y) (ad : Nat → Nat) (n : Nat) (S : ph_S) (h : ph_H) (o sz : Nat) : Nat → Prop := fun q => va_A (ph_w n Y.2 ad S h) sz q ∨ q = o
def hPc (Y : fj_Y) (cL : ClassId) (ad : Nat → Nat) (n : Nat) (S : ph_S) (h : ph_H) (o : Nat) (f : Nat → Int64) (av : List Value) (sz : Nat) : Array Value → State → Prop := va_Pc av (fun U => U.heap.size = sz ∧ wW Y ad n S h (fun _ => True) U ∧ EN (hA Y ad n S h o sz) U ∧ va_P Y.1 vwCl [(o, .inl (cL, 1, .inr (.inl f)))] U.heap ∧ va_K Y.1 vwCl [(cL, .long)] U ∧ ∀ k, k < n → ad k ≠ o)
theorem hPc_blind {Y : fj_Y} {cL : ClassId} {ad : Nat → Nat} {n : Nat} {S : ph_S} {h : ph_H} {o : Nat} {f : Nat → Int64} {av : List Value} {sz : Nat} : FrameBlind (hPc Y cL ad n S h o f av sz) := fun a U g mk q => by
  obtain ⟨q0, q1, ⟨qP, qK, qD⟩, qE, qo, qL, qn⟩ := q
  exact ⟨q0, q1, ⟨qP, va_K.moved (u := U) (U := U.calling g mk a) (Vm.Alike.refl U.vm) qK, qD⟩, qE.blind, qo, va_K.moved (u := U) (U := U.calling g mk a) (Vm.Alike.refl U.vm) qL, qn⟩
def hB (Y : fj_Y) (cL : ClassId) (ad : Nat → Nat) (n : Nat) (S : ph_S) (h : ph_H) (o sz : Nat) (u : gU × (Nat → Int64)) (t : State) : Prop := gB Y ad n S h sz u.1 t ∧ va_P Y.1 vwCl [(o, .inl (cL, 1, .inr (.inl u.2)))] t.heap
def hPost (pv : Int32 → gU → Prop) (px : String → gU → Prop) (f : Nat → Int64) : Int32 → gU × (Nat → Int64) → Prop := fun r u => (∃ v, pv v u.1 ∧ r = 0 ∧ u.2 0 = v.toInt64) ∨ (px eIA u.1 ∧ r = 1 ∧ u.2 = f) ∨ (px eIS u.1 ∧ r = 2 ∧ u.2 = f)
def HM (l : Launch) (y : MethodName) (w : Cond) (rm : Room) (Y : fj_Y) (cL : ClassId) (ad : Nat → Nat) (n : Nat) (S : ph_S) (h : ph_H) (o : Nat) (f : Nat → Int64) (av : List Value) (post : Int32 → gU × (Nat → Int64) → Prop) : Prop := ∀ sz : Nat, Met l y (w :: TW) rm (hPc Y cL ad n S h o f av sz) (va_Qi post (hB Y cL ad n S h o sz) (hA Y ad n S h o sz)) rm.cells rm.slots (hA Y ad n S h o sz)
theorem l_callH {X : lj_X} {Y : fj_Y} {cL : ClassId} {cells slots : Nat} {pc : Nat} {lv : List (Nat × Value)} {stk st : List Value} {y : MethodName} {c2 : ByteArray} {maxL2 ix : Nat} {ret2 : Option FieldType} {hh : List (Nat × Nat × Nat × Nat)} {rm2 : Room} {av : List Value} {n : Nat} {ad : Nat → Nat} {S : ph_S} {h : ph_H} {adm : Nat → Nat} {hm : ph_H} {o : Nat} {f : Nat → Int64} (C : LC X Y cL) {post : Int32 → gU × (Nat → Int64) → Prop} (hM : HM X.1.2.1 y (.codeWith y c2 maxL2 ret2 hh) rm2 Y cL ad n S h o f av post) (hd : decode code pc = .ok (.invokestatic ix, 3)) (hcode : Cond.codeWith y c2 maxL2 ret2 hh ∈ TW) (hini : Cond.initialized y.cls ∈ TW) (hy : y.cls ≠ "java/lang/invoke/MethodHandle" ∧ y.cls ≠ "java/lang/invoke/VarHandle") (hk : (parseMethodDescriptor y.desc).map (fun d => d.parameters.length) = some av.length) (hfr : rm2.frames + 1 ≤ room_1.frames ∧ 8 + (maxL2 + 11) + rm2.locals ≤ room_1.locals) (hlink : Cond.methodLink R_law ix y ∈ TW) (hst : Cond.static y ∈ TW) (hstk : stk = av.reverse ++ st) (hroom : (st.map fun v => v.category).sum ≤ 8) (hc : cells + rm2.cells ≤ 601024 ∧ slots + rm2.slots ≤ 7293034)
    (kk : ∀ r u, post r u → LJ X Y cL (u.1, (adm, hm), (o, u.2)) (cells + rm2.cells) (slots + rm2.slots) (pc + 3) lv (.int r :: st)) : LJ X Y cL ((n, ad, S, h), (adm, hm), (o, f)) cells slots pc lv stk := by
  obtain ⟨⟨p, l, e⟩, ⟨s, m, below, meth, c⟩, ⟨b, L, xs⟩⟩ := X
  obtain ⟨hx, hb, hret, hml, hown, hts, hX, hbl, hlk, hL, htr, hE, hK, hK2⟩ := C
  subst hstk
  intro H locs ls hW hS hl
  obtain ⟨w1, w2, w3, i1, i2, a1, a2, a3, d1, d2, d3⟩ := hW
  have hD0 : va_D (fun q => s.heap.size ≤ q) (ph_w n Y.2 ad S h) := phD.mpr ⟨i1, a1⟩
  have hA0 : ∀ q, va_A (ph_w n Y.2 ad S h) H.size q → s.heap.size ≤ q := gFc (G := Y.1) hD0 hS (fun _ q => q)
  have hA1 : ∀ q, hA Y ad n S h o H.size q → s.heap.size ≤ q := fun q hq => by
    rcases hq with hq | rfl
    · exact hA0 q hq
    · exact a3
  refine va_calli (vx_runSW (hh := hh) (bytes := c2) (maxL := maxL2) (ret := ret2) (As := av) (rest := st) ⟨hx, hb, hml, hown, hts⟩ (hM H.size) ⟨⟨rfl, rfl, hfr.1, hfr.2, pay_in (big := TW) hts (fun w hw => ?_), List.mem_cons_self⟩, hts _ hcode, hts _ hini, hy, fun sig hs => ?_, hts _ hlink, hts _ hst⟩ ⟨hPc_blind, fun U hU hWm => ⟨rfl, by rw [hU], ⟨by rw [hU]; exact w1, va_K.moved hWm.alike hK, hD0.weaken (fun _ _ _ _ => trivial)⟩, by subst hU; exact hE.warm hWm hS hA1, by rw [hU]; exact w3, va_K.moved hWm.alike hK2, d2⟩⟩ rfl rfl hl.1 rfl (lv_room hroom) hd hc) hS (fun q _ hq => hA1 q hq) hA1 (fun r u t H1 locs1 ht hvm hp hB hz1 hk1 hS1 => ?_)
  · rcases List.mem_cons.mp hw with e | e
    · rw [e]; exact TW_good _ hcode
    · exact TW_good _ e
  · rw [hs] at hk
    exact (Option.some.inj hk).symm
  · obtain ⟨⟨hP1, hK1, hD1⟩, hO1⟩ := hB
    rw [ht] at hP1 hO1
    obtain ⟨u1, u2⟩ := phD.mp hD1
    have nM0 : ∀ j, j < 50 → ¬ va_A (ph_w n Y.2 ad S h) H.size (adm j) := fun j hj z => by
      rcases phA.mp z with ⟨k, hk, e⟩ | z
      · exact d1 k j hk hj e.symm
      · exact absurd ((phP.mp w2 j hj).lt) (Nat.not_lt.mpr z)
    have nM : ∀ j, j < 50 → ¬ hA Y ad n S h o H.size (adm j) := fun j hj z => z.elim (nM0 j hj) (d3 j hj)
    have nO : ¬ va_A (ph_w n Y.2 ad S h) H.size o := fun z => by
      rcases phA.mp z with ⟨k, hk, e⟩ | z
      · exact d2 k hk e.symm
      · exact absurd (lo_lt w3) (Nat.not_lt.mpr z)
    exact kk r u hp H1 locs1 ls ⟨hP1, lw_kept w2 hk1 nM, hO1, u1, i2, fun k hk => hA0 _ (u2 k hk), a2, a3, fun i j hi hj e => nM0 j hj (by have e : u.1.2.1 i = adm j := e; rw [← e]; exact u2 i hi), fun i hi e => nO (by have e : u.1.2.1 i = o := e; rw [← e]; exact u2 i hi), d3⟩ hS1 hl
