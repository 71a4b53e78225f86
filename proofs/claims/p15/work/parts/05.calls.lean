/-! METHODS over the pure heap: contracts without new cells -/
def wW (Y : fj_Y) (ad : Nat → Nat) (n : Nat) (S : ph_S) (h : Nat → Nat → Int32) (A : Nat → Prop) (t : State) : Prop := va_P Y.1 vwCl (ph_w n Y.2 ad S h) t.heap ∧ va_K Y.1 vwCl (tyl Y.2) t ∧ va_D A (ph_w n Y.2 ad S h)
abbrev ph_H : Type := Nat → Nat → Int32
def wPc (Y : fj_Y) (ad : Nat → Nat) (n : Nat) (S : ph_S) (h : ph_H) (av : List Value) (sz : Nat) : Array Value → State → Prop := va_Pc av (fun U => U.heap.size = sz ∧ wW Y ad n S h (fun _ => True) U)
theorem wPc_blind {Y : fj_Y} {ad : Nat → Nat} {n : Nat} {S : ph_S} {h : ph_H} {av : List Value} {sz : Nat} : FrameBlind (wPc Y ad n S h av sz) := fun a U g mk q => by
  obtain ⟨q0, q1, qP, qK, qD⟩ := q
  exact ⟨q0, q1, qP, va_K.moved (u := U) (U := U.calling g mk a) (Vm.Alike.refl U.vm) qK, qD⟩
/-- an int (or boolean) method -/
def MI (l : Launch) (y : MethodName) (cc : ByteArray) (maxL : Nat) (ret : Option FieldType) (rm : Room) (Y : fj_Y) (ad : Nat → Nat) (n : Nat) (S : ph_S) (h : ph_H) (av : List Value) (post : Int32 → ph_S → ph_H → Prop) : Prop :=
  ∀ sz : Nat, Met l y (Cond.code y cc maxL ret :: TW) rm (wPc Y ad n S h av sz) (va_Qi (fun r (u : ph_S × ph_H) => post r u.1 u.2) (fun u t => wW Y ad n u.1 u.2 (va_A (ph_w n Y.2 ad S h) sz) t) (va_A (ph_w n Y.2 ad S h) sz)) rm.cells rm.slots (va_A (ph_w n Y.2 ad S h) sz)
/-- a void method -/
def MV (l : Launch) (y : MethodName) (cc : ByteArray) (maxL : Nat) (rm : Room) (Y : fj_Y) (ad : Nat → Nat) (n : Nat) (S : ph_S) (h : ph_H) (av : List Value) (post : ph_S → ph_H → Prop) : Prop :=
  ∀ sz : Nat, Met l y (Cond.code y cc maxL none :: TW) rm (wPc Y ad n S h av sz) (va_Qv (fun (u : ph_S × ph_H) => post u.1 u.2) (fun u t => wW Y ad n u.1 u.2 (va_A (ph_w n Y.2 ad S h) sz) t) (va_A (ph_w n Y.2 ad S h) sz)) rm.cells rm.slots (va_A (ph_w n Y.2 ad S h) sz)
theorem met_i {l : Launch} {y : MethodName} {cc : ByteArray} {maxL : Nat} {ty : FieldType} {rm : Room} {Y : fj_Y} {ad : Nat → Nat} {n : Nat} {S : ph_S} {h : ph_H} {av : List Value} {post : Int32 → ph_S → ph_H → Prop} (hy : plainName y.cls = true) (hav : (lg_sl av).length ≤ maxL)
    (hn : ∀ r S' h', post r S' h' → narrow ty (.int r) = .int r)
    (body : ∀ X : fj_X, FC X Y l cc maxL y.cls rm 0 0 (some ty) → (∀ r S' h', post r S' h' → ∀ pc lv, decode cc pc = .ok (.ireturn, 1) → FJ X Y ad n S' h' pc lv [.int r]) → FJ X Y ad n S h 0 (lv_args 0 av) []) : MI l y cc maxL (some ty) rm Y ad n S h av post := by
  intro sz
  refine Met.ofW (cc := cc) (maxL := maxL) (ret := some ty) hy rfl ?_
  intro p e s m args below meth c s₁ B hml hv
  obtain ⟨rfl, hsz, hP, hK, hD0⟩ := hv
  subst hsz
  have hts := atoms_spec (ws := Cond.code y cc maxL (some ty) :: TW) B.pre
  obtain ⟨G, cA⟩ := Y
  have hD := hD0.self (sz := s.heap.size)
  have hl := lv_entry av (n := maxL) hav
  rw [lg_entry_eq]
  refine body ((p, l, e, rm), (s, m, av.toArray, below, meth, c), (0, 0, _), (maxL, va_A (ph_w n cA ad S h) s.heap.size)) ⟨B.exec, B.bytes, hml, findClass_of_methodNamed B.named, fun w hw => hts w (List.mem_cons_of_mem _ hw), hK, B.notSynchronized, rfl, rfl, rfl, rfl, B.returns, rfl, Nat.zero_le _, Nat.zero_le _, fun q hq => Or.inr hq⟩ ?_ s.heap [] _ hP hD va_S.rf hl
  intro r S' h' hp pc lv hd H locs ls hP' hD' hS' hl'
  refine W.widen (k := rm.cells) (n := rm.slots) (Nat.zero_le _) (Nat.zero_le _) ?_
  exact W.zret (v := r) B.exec B.bytes B.returns (hn r S' h' hp) (fun t ht hW => ⟨⟨r, (S', h'), rfl, hp, by rw [ht]; exact hP', va_K.moved hW.alike hK, hD'⟩, hS'.F ht⟩) hS'.2.2 hd
theorem met_v {l : Launch} {y : MethodName} {cc : ByteArray} {maxL : Nat} {rm : Room} {Y : fj_Y} {ad : Nat → Nat} {n : Nat} {S : ph_S} {h : ph_H} {av : List Value} {post : ph_S → ph_H → Prop} (hy : plainName y.cls = true) (hav : (lg_sl av).length ≤ maxL)
    (body : ∀ X : fj_X, FC X Y l cc maxL y.cls rm 0 0 none → (∀ S' h', post S' h' → ∀ pc lv, decode cc pc = .ok (.return_, 1) → FJ X Y ad n S' h' pc lv []) → FJ X Y ad n S h 0 (lv_args 0 av) []) : MV l y cc maxL rm Y ad n S h av post := by
  intro sz
  refine Met.ofW (cc := cc) (maxL := maxL) (ret := none) hy rfl ?_
  intro p e s m args below meth c s₁ B hml hv
  obtain ⟨rfl, hsz, hP, hK, hD0⟩ := hv
  subst hsz
  have hts := atoms_spec (ws := Cond.code y cc maxL none :: TW) B.pre
  obtain ⟨G, cA⟩ := Y
  have hD := hD0.self (sz := s.heap.size)
  have hl := lv_entry av (n := maxL) hav
  rw [lg_entry_eq]
  refine body ((p, l, e, rm), (s, m, av.toArray, below, meth, c), (0, 0, _), (maxL, va_A (ph_w n cA ad S h) s.heap.size)) ⟨B.exec, B.bytes, hml, findClass_of_methodNamed B.named, fun w hw => hts w (List.mem_cons_of_mem _ hw), hK, B.notSynchronized, rfl, rfl, rfl, rfl, B.returns, rfl, Nat.zero_le _, Nat.zero_le _, fun q hq => Or.inr hq⟩ ?_ s.heap [] _ hP hD va_S.rf hl
  intro S' h' hp pc lv hd H locs ls hP' hD' hS' hl'
  refine W.widen (k := rm.cells) (n := rm.slots) (Nat.zero_le _) (Nat.zero_le _) ?_
  exact W.vret B.exec B.bytes B.returns (fun t ht hW => ⟨⟨(S', h'), rfl, hp, by rw [ht]; exact hP', va_K.moved hW.alike hK, hD'⟩, hS'.F ht⟩) hS'.2.2 hd
/-- what a caller must know of a callee: its code, that its room fits, how many arguments it takes -/
def CK (rm : Room) (y : MethodName) (cc : ByteArray) (maxL : Nat) (ret : Option FieldType) (rm2 : Room) (k : Nat) : Prop := Cond.code y cc maxL ret ∈ TW ∧ Cond.initialized y.cls ∈ TW ∧ (y.cls ≠ "java/lang/invoke/MethodHandle" ∧ y.cls ≠ "java/lang/invoke/VarHandle") ∧ (parseMethodDescriptor y.desc).map (fun d => d.parameters.length) = some k ∧ rm2.frames + 1 ≤ rm.frames ∧ 8 + (maxL + 11) + rm2.locals ≤ rm.locals
theorem CK.B {R : Room} {s : State} {args : Array Value} {own : String} {ix : Nat} {y : MethodName} {cc : ByteArray} {maxL : Nat} {ret : Option FieldType} {rm2 : Room} {k : Nat} (h : CK R y cc maxL ret rm2 k) (hts : ∀ w ∈ TW, w.before args s = true) (hl : Cond.methodLink own ix y ∈ TW) : CallB R s args own ix y cc maxL ret (Cond.code y cc maxL ret :: TW) rm2 rm2.cells rm2.slots k := by
  obtain ⟨hc, hi, hy, hk, h1, h2⟩ := h
  refine ⟨rfl, rfl, h1, h2, pay_in (big := TW) hts (fun w hw => ?_), List.mem_cons_self, hts _ hc, hts _ hi, hy, fun sig hs => ?_, hts _ hl⟩
  · rcases List.mem_cons.mp hw with e | e
    · rw [e]; exact TW_good _ hc
    · exact TW_good _ e
  · rw [hs] at hk
    exact (Option.some.inj hk).symm
section CALLS
variable {X : fj_X} {Y : fj_Y} {l0 : Launch} {cc : ByteArray} {nL : Nat} {own : String} {rm : Room} {mc ms : Nat} {ret : Option FieldType} {ad : Nat → Nat} {n : Nat} {S : ph_S} {h : ph_H} {pc : Nat} {lv : List (Nat × Value)} {stk st : List Value}
theorem j_callS (C : FC X Y l0 cc nL own rm mc ms ret) {y : MethodName} {c2 : ByteArray} {maxL2 ix : Nat} {ret2 : Option FieldType} {rm2 : Room} {av : List Value} {post : Int32 → ph_S → ph_H → Prop} (hM : MI l0 y c2 maxL2 ret2 rm2 Y ad n S h av post) (hd : decode cc pc = .ok (.invokestatic ix, 3)) (hk : CK rm y c2 maxL2 ret2 rm2 av.length) (h0 : rm2.cells = 0 ∧ rm2.slots = 0) (hlink : Cond.methodLink own ix y ∈ TW) (hst : Cond.static y ∈ TW) (hstk : stk = av.reverse ++ st) (hroom : (st.map fun v => v.category).sum ≤ 8) (kk : ∀ r S' h', post r S' h' → FJ X Y ad n S' h' (pc + 3) lv (.int r :: st)) : FJ X Y ad n S h pc lv stk := by
  obtain ⟨⟨p, l, e, R⟩, ⟨s, m, args, below, meth, c⟩, ⟨cells, slots, Q⟩, ⟨nL', A⟩⟩ := X
  obtain ⟨G, cA⟩ := Y
  obtain ⟨hx, hb, hml, hown, hts, hK, hlk, hR, hce, hsl, hnl, hret, htr, hmc, hms, hA⟩ := C
  subst hstk hR hce hsl hnl htr
  intro H locs ls hP hD hS hl
  have hFc : ∀ q, va_A (ph_w n cA ad S h) H.size q → A q := fun q hq => by
    rcases hq with ⟨k, e, hq⟩ | hq
    · exact hD.2 k _ hq
    · exact hA q (Nat.le_trans hS.1 hq)
  refine va_calli (va_runS (As := av) (rest := st) ⟨hx, hb, hml, hown, hts⟩ (hM H.size) ⟨hk.B hts hlink, hts _ hst⟩ ⟨wPc_blind, fun U hU hW => ⟨rfl, by rw [hU], by rw [hU]; exact hP, va_K.moved hW.alike hK, hD.weaken (fun _ _ _ _ => trivial)⟩⟩ rfl rfl hl.1 rfl (lv_room hroom) hd ⟨by rw [h0.1]; exact hmc, by rw [h0.2]; exact hms⟩) hS (fun q _ hq => hFc q hq) hFc (fun r u t H1 locs1 ht hvm hp hB hz1 hk1 hS1 => ?_)
  obtain ⟨hP1, hK1, hD1⟩ := hB
  rw [ht] at hP1
  rw [h0.1, h0.2]
  exact kk r u.1 u.2 hp H1 locs1 ls hP1 (hD1.weaken (fun _ _ _ hq => hFc _ hq)) hS1 hl
theorem j_callV (C : FC X Y l0 cc nL own rm mc ms ret) {y : MethodName} {c2 : ByteArray} {maxL2 ix : Nat} {ret2 : Option FieldType} {rm2 : Room} {k0 ci nf : Nat} {rf : Nat → Option (Option Nat)} {T : u_T} {av : List Value} {post : Int32 → ph_S → ph_H → Prop} (hM : MI l0 y c2 maxL2 ret2 rm2 Y ad n S h (.ref (ad k0) :: av) post) (hd : decode cc pc = .ok (.invokevirtual ix, 3)) (hk : CK rm y c2 maxL2 ret2 rm2 av.length) (h0 : rm2.cells = 0 ∧ rm2.slots = 0) (hlink : Cond.methodLink own ix y ∈ TW) (hins : Cond.instanceMethod y ∈ TW) (hsel : Cond.selects y.cls y y ∈ TW) (hk0 : k0 < n) (hS0 : S k0 = .inr (.inl (ci, nf, rf))) (hcl : vwCl[ci]? = some (y.cls, T, nf)) (hstk : stk = av.reverse ++ .ref (ad k0) :: st) (hroom : (st.map fun v => v.category).sum ≤ 8) (kk : ∀ r S' h', post r S' h' → FJ X Y ad n S' h' (pc + 3) lv (.int r :: st)) : FJ X Y ad n S h pc lv stk := by
  obtain ⟨⟨p, l, e, R⟩, ⟨s, m, args, below, meth, c⟩, ⟨cells, slots, Q⟩, ⟨nL', A⟩⟩ := X
  obtain ⟨G, cA⟩ := Y
  obtain ⟨hx, hb, hml, hown, hts, hK, hlk, hR, hce, hsl, hnl, hret, htr, hmc, hms, hA⟩ := C
  subst hstk hR hce hsl hnl htr
  intro H locs ls hP hD hS hl
  have hFc : ∀ q, va_A (ph_w n cA ad S h) H.size q → A q := fun q hq => by
    rcases hq with ⟨k, e, hq⟩ | hq
    · exact hD.2 k _ hq
    · exact hA q (Nat.le_trans hS.1 hq)
  have hrc := va_recv hK hP hcl (q0 := k0) (a := ad k0) (fs := (List.range nf).map (ph_f ad rf (h k0))) (by rw [ph_at hk0, hS0]; rfl)
  refine va_calli (va_runV (As := av) (rest := st) ⟨hx, hb, hml, hown, hts⟩ (hM H.size) ⟨hk.B hts hlink, hts _ hins, hts _ hsel⟩ ⟨wPc_blind, hrc, fun U hU hW => ⟨rfl, by rw [hU], by rw [hU]; exact hP, va_K.moved hW.alike hK, hD.weaken (fun _ _ _ _ => trivial)⟩⟩ rfl rfl hl.1 rfl (lv_room hroom) hd ⟨by rw [h0.1]; exact hmc, by rw [h0.2]; exact hms⟩) hS (fun q _ hq => hFc q hq) hFc (fun r u t H1 locs1 ht hvm hp hB hz1 hk1 hS1 => ?_)
  obtain ⟨hP1, hK1, hD1⟩ := hB
  rw [ht] at hP1
  rw [h0.1, h0.2]
  exact kk r u.1 u.2 hp H1 locs1 ls hP1 (hD1.weaken (fun _ _ _ hq => hFc _ hq)) hS1 hl
theorem j_callVv (C : FC X Y l0 cc nL own rm mc ms ret) {y : MethodName} {c2 : ByteArray} {maxL2 ix : Nat} {rm2 : Room} {k0 ci nf : Nat} {rf : Nat → Option (Option Nat)} {T : u_T} {av : List Value} {post : ph_S → ph_H → Prop} (hM : MV l0 y c2 maxL2 rm2 Y ad n S h (.ref (ad k0) :: av) post) (hd : decode cc pc = .ok (.invokevirtual ix, 3)) (hk : CK rm y c2 maxL2 none rm2 av.length) (h0 : rm2.cells = 0 ∧ rm2.slots = 0) (hlink : Cond.methodLink own ix y ∈ TW) (hins : Cond.instanceMethod y ∈ TW) (hsel : Cond.selects y.cls y y ∈ TW) (hk0 : k0 < n) (hS0 : S k0 = .inr (.inl (ci, nf, rf))) (hcl : vwCl[ci]? = some (y.cls, T, nf)) (hstk : stk = av.reverse ++ .ref (ad k0) :: st) (hroom : (st.map fun v => v.category).sum ≤ 8) (kk : ∀ S' h', post S' h' → FJ X Y ad n S' h' (pc + 3) lv st) : FJ X Y ad n S h pc lv stk := by
  obtain ⟨⟨p, l, e, R⟩, ⟨s, m, args, below, meth, c⟩, ⟨cells, slots, Q⟩, ⟨nL', A⟩⟩ := X
  obtain ⟨G, cA⟩ := Y
  obtain ⟨hx, hb, hml, hown, hts, hK, hlk, hR, hce, hsl, hnl, hret, htr, hmc, hms, hA⟩ := C
  subst hstk hR hce hsl hnl htr
  intro H locs ls hP hD hS hl
  have hFc : ∀ q, va_A (ph_w n cA ad S h) H.size q → A q := fun q hq => by
    rcases hq with ⟨k, e, hq⟩ | hq
    · exact hD.2 k _ hq
    · exact hA q (Nat.le_trans hS.1 hq)
  have hrc := va_recv hK hP hcl (q0 := k0) (a := ad k0) (fs := (List.range nf).map (ph_f ad rf (h k0))) (by rw [ph_at hk0, hS0]; rfl)
  refine va_callv (va_runV (As := av) (rest := st) ⟨hx, hb, hml, hown, hts⟩ (hM H.size) ⟨hk.B hts hlink, hts _ hins, hts _ hsel⟩ ⟨wPc_blind, hrc, fun U hU hW => ⟨rfl, by rw [hU], by rw [hU]; exact hP, va_K.moved hW.alike hK, hD.weaken (fun _ _ _ _ => trivial)⟩⟩ rfl rfl hl.1 rfl (lv_room hroom) hd ⟨by rw [h0.1]; exact hmc, by rw [h0.2]; exact hms⟩) hS (fun q _ hq => hFc q hq) hFc (fun u t H1 locs1 ht hvm hp hB hz1 hk1 hS1 => ?_)
  obtain ⟨hP1, hK1, hD1⟩ := hB
  rw [ht] at hP1
  rw [h0.1, h0.2]
  exact kk u.1 u.2 hp H1 locs1 ls hP1 (hD1.weaken (fun _ _ _ hq => hFc _ hq)) hS1 hl
end CALLS
