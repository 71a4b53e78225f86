/-! ROWS that the class needs beyond the reference's -/
section CROWS
variable {X : fj_X} {Y : fj_Y} {l0 : Launch} {cc : ByteArray} {nL : Nat} {own : String} {rm : Room} {mc ms : Nat} {ret : Option FieldType} {ad : Nat → Nat} {n : Nat} {S : ph_S} {h : ph_H} {pc : Nat} {lv : List (Nat × Value)} {stk st : List Value}
theorem j_ishl (C : FC X Y l0 cc nL own rm mc ms ret) {x y : Int32} (hd : decode cc pc = .ok (.ishl, 1)) (k : FJ X Y ad n S h (pc + 1) lv (.int (x <<< (y &&& 31)) :: st)) : FJ X Y ad n S h pc lv (.int y :: .int x :: st) := by
  obtain ⟨⟨p, l, e, R⟩, ⟨s, m, args, below, meth, c⟩, ⟨cells, slots, Q⟩, ⟨nL', A⟩⟩ := X
  obtain ⟨G, cA⟩ := Y
  obtain ⟨hx, hb, hml, hown, hts, hK, hlk, hR, hce, hsl, hnl, hret, htr, hmc, hms, hA⟩ := C
  exact fun H locs ls hP hD hS hl => lv_ishl hx hb hd (k H locs ls hP hD hS hl)
theorem j_ishr (C : FC X Y l0 cc nL own rm mc ms ret) {x y : Int32} (hd : decode cc pc = .ok (.ishr, 1)) (k : FJ X Y ad n S h (pc + 1) lv (.int (x >>> (y &&& 31)) :: st)) : FJ X Y ad n S h pc lv (.int y :: .int x :: st) := by
  obtain ⟨⟨p, l, e, R⟩, ⟨s, m, args, below, meth, c⟩, ⟨cells, slots, Q⟩, ⟨nL', A⟩⟩ := X
  obtain ⟨G, cA⟩ := Y
  obtain ⟨hx, hb, hml, hown, hts, hK, hlk, hR, hce, hsl, hnl, hret, htr, hmc, hms, hA⟩ := C
  exact fun H locs ls hP hD hS hl => lv_ishr hx hb hd (k H locs ls hP hD hS hl)
theorem j_ixor (C : FC X Y l0 cc nL own rm mc ms ret) {x y : Int32} (hd : decode cc pc = .ok (.ixor, 1)) (k : FJ X Y ad n S h (pc + 1) lv (.int (x ^^^ y) :: st)) : FJ X Y ad n S h pc lv (.int y :: .int x :: st) := by
  obtain ⟨⟨p, l, e, R⟩, ⟨s, m, args, below, meth, c⟩, ⟨cells, slots, Q⟩, ⟨nL', A⟩⟩ := X
  obtain ⟨G, cA⟩ := Y
  obtain ⟨hx, hb, hml, hown, hts, hK, hlk, hR, hce, hsl, hnl, hret, htr, hmc, hms, hA⟩ := C
  exact fun H locs ls hP hD hS hl => lv_ixor hx hb hd (k H locs ls hP hD hS hl)
theorem j_mmax (C : FC X Y l0 cc nL own rm mc ms ret) {ix : Nat} {x y : Int32} (hd : decode cc pc = .ok (.invokestatic ix, 3)) (hlink : Cond.methodLink own ix Lib.Math.max.name ∈ TW) (hst : Cond.static Lib.Math.max.name ∈ TW) (hini : Cond.initialized "java/lang/Math" ∈ TW) (hco : Cond.code Lib.Math.max.name Lib.Math.max.code 2 (some .int) ∈ TW) (h0 : 1 ≤ rm.frames) (h1 : (st.map fun v => v.category).sum + 13 ≤ rm.locals) (k : FJ X Y ad n S h (pc + 3) lv (.int (if x < y then y else x) :: st)) : FJ X Y ad n S h pc lv (.int y :: .int x :: st) := by
  obtain ⟨⟨p, l, e, R⟩, ⟨s, m, args, below, meth, c⟩, ⟨cells, slots, Q⟩, ⟨nL', A⟩⟩ := X
  obtain ⟨G, cA⟩ := Y
  obtain ⟨hx, hb, hml, hown, hts, hK, hlk, hR, hce, hsl, hnl, hret, htr, hmc, hms, hA⟩ := C
  subst hR hce hsl hnl
  exact fun H locs ls hP hD hS hl => va_mmax hx hb (hml.trans hl.1.symm) hown (hts _ hlink) (hts _ hst) (hts _ hini) (hts _ hco) h0 h1 hmc hms hd (k H locs ls hP hD hS hl)
/-- a piece of one int row into another (or the same) -/
def hc (h : ph_H) (k0 k1 : Nat) (sp dp m : Int32) : ph_H := va_up h k1 (va_cpy (h k0) (h k1) sp.toNatClampNeg dp.toNatClampNeg m.toNatClampNeg)
def cpok (sp dp m : Int32) (n0 n1 : Nat) : Prop := ¬ sp < 0 ∧ ¬ dp < 0 ∧ ¬ m < 0 ∧ sp.toNatClampNeg + m.toNatClampNeg ≤ n0 ∧ dp.toNatClampNeg + m.toNatClampNeg ≤ n1
theorem j_copy (C : FC X Y l0 cc nL own rm mc ms ret) {ix k0 k1 n0 n1 : Nat} {sp dp m : Int32} (hd : decode cc pc = .ok (.invokestatic ix, 3)) (hlink : Cond.methodLink own ix arraycopyName ∈ TW) (hnat : Cond.native arraycopyName ∈ TW) (hst : Cond.static arraycopyName ∈ TW) (hini : Cond.initialized "java/lang/System" ∈ TW) (hk0 : k0 < n) (hS0 : S k0 = .inl (0, n0)) (hk1 : k1 < n) (hS1 : S k1 = .inl (0, n1)) (q : cpok sp dp m n0 n1) (h0 : 1 ≤ rm.frames) (h1 : (st.map fun v => v.category).sum + (nativeFrameWords "java/lang/System" "arraycopy" 5 + 11) ≤ rm.locals) (k : FJ X Y ad n S (hc h k0 k1 sp dp m) (pc + 3) lv st) : FJ X Y ad n S h pc lv (.int m :: .int dp :: .ref (ad k1) :: .int sp :: .ref (ad k0) :: st) := by
  obtain ⟨⟨p, l, e, R⟩, ⟨s, m', args, below, meth, c⟩, ⟨cells, slots, Q⟩, ⟨nL', A⟩⟩ := X
  obtain ⟨G, cA⟩ := Y
  obtain ⟨hx, hb, hml, hown, hts, hK, hlk, hR, hce, hsl, hnl, hret, htr, hmc, hms, hA⟩ := C
  subst hR hce hsl hnl
  refine fun H locs ls hP hD hS hl => va_copyi (ty := .int) hx hb (hml.trans hl.1.symm) hown (hts _ hlink) (hts _ hnat) (hts _ hst) (hts _ hini) hK hP hD hS k0 k1 0 0 (by rw [ph_at hk0, hS0]; rfl) (by rw [ph_at hk1, hS1]; rfl) rfl rfl rfl q.1 q.2.1 q.2.2.1 q.2.2.2.1 q.2.2.2.2 (fun _ _ => rfl) h0 h1 hd (fun H1 locs1 hP1 hD1 hS1' => ?_)
  have e : (ph_w n cA ad S h).set k1 (ad k1, .inl (cA 0, n1, .inl (va_cpy (h k0) (h k1) sp.toNatClampNeg dp.toNatClampNeg m.toNatClampNeg))) = ph_w n cA ad S (hc h k0 k1 sp dp m) := ph_seth (by rw [hS1]; rfl)
  rw [e] at hP1 hD1
  exact k H1 locs1 ls hP1 hD1 hS1' hl
/-- a row out of a row of int rows -/
theorem j_aald (C : FC X Y l0 cc nL own rm mc ms ret) {k0 len r : Nat} {g : Nat → Option Nat} {i : Int32} (hd : decode cc pc = .ok (.aaload, 1)) (hk : k0 < n) (hS0 : S k0 = .inr (.inr (4, len, g))) (hi : vp_in i len) (hg : g i.toNatClampNeg = some r) (k : FJ X Y ad n S h (pc + 1) lv (.ref (ad r) :: st)) : FJ X Y ad n S h pc lv (.int i :: .ref (ad k0) :: st) := by
  obtain ⟨⟨p, l, e, R⟩, ⟨s, m, args, below, meth, c⟩, ⟨cells, slots, Q⟩, ⟨nL', A⟩⟩ := X
  obtain ⟨G, cA⟩ := Y
  obtain ⟨hx, hb, hml, hown, hts, hK, hlk, hR, hce, hsl, hnl, hret, htr, hmc, hms, hA⟩ := C
  intro H locs ls hP hD hS hl
  have hlt : i.toNatClampNeg < len := Nat.not_le.mp fun q => hi (Or.inr q)
  have ha : (ph_w n cA ad S h)[k0]? = some (ad k0, .inl (cA 4, len, .inr (.inr (.inr (.inr (fun i => (g i).map ad)))))) := by rw [ph_at hk, hS0]; rfl
  have ht : (tyl cA)[4]? = some (cA 4, .array .int) := rfl
  have ev : va_rf ((g i.toNatClampNeg).map ad) = .ref (ad r) := by rw [hg]; rfl
  refine W.aald (v := va_rf ((g i.toNatClampNeg).map ad)) (ty := .array .int) hx hb (hP k0 _ ha) ((hK.2 4 _ ht).1 len (fun j => va_rf ((g j).map ad))) rfl (fun q => by cases q) (by show ¬ (i < 0 ∨ (arrV _ _ _).slots.size ≤ _); rw [arrV_size]; exact hi) (by show (arrV _ _ _).slots[_]? = _; rw [arrV_read _ _ hlt]) rfl rfl hd ?_
  rw [ev]
  exact k H locs ls hP hD hS hl
/-- a field that refers gets another place -/
theorem j_putr (C : FC X Y l0 cc nL own rm mc ms ret) {ix k ci nf j r : Nat} {rf : Nat → Option (Option Nat)} {Cn ref : String} {T : u_T} {ty0 : Nat → FieldType} {ty : FieldType} (hd : decode cc pc = .ok (.putfield ix, 3)) (hk : k < n) (hS0 : S k = .inr (.inl (ci, nf, rf))) (hcl : vwCl[ci]? = some (Cn, T, nf)) (hin : ∀ w ∈ u_ws Cn T nf, w ∈ TW) (hty : ∀ k, k < nf → parseFieldDescriptor (T k).2.2.1 = some (ty0 k)) (hnm : ∀ a, a < nf → ∀ b, b < nf → a ≠ b → (T a).2.1 ≠ (T b).2.1) (hj : j < nf) (hlink : Cond.fieldLink own ix ref (T j).2.1 (T j).2.2.1 ∈ TW) (hsame : (T j).1 = ref) (hfin : (T j).2.2.2 = false) (hpt : parseFieldDescriptor (T j).2.2.1 = some ty) (hnar : ∀ a : Nat, narrow ty (.ref a) = .ref a) (hfit : ∀ a : Nat, fits ty (.ref a) = true) (kk : FJ X Y ad n (va_up S k (.inr (.inl (ci, nf, va_up rf j (some (some r)))))) h (pc + 3) lv st) : FJ X Y ad n S h pc lv (.ref (ad r) :: .ref (ad k) :: st) := by
  obtain ⟨⟨p, l, e, R⟩, ⟨s, m, args, below, meth, c⟩, ⟨cells, slots, Q⟩, ⟨nL', A⟩⟩ := X
  obtain ⟨G, cA⟩ := Y
  obtain ⟨hx, hb, hml, hown, hts, hK, hlk, hR, hce, hsl, hnl, hret, htr, hmc, hms, hA⟩ := C
  refine fun H locs ls hP hD hS hl => va_put (D := (G)) hx hb hts hin ty0 hty hnm hown hK hP hD hS k (by rw [ph_at hk, hS0]; rfl) hcl j hj (hts _ hlink) (fun _ q => by rw [← hsame]; exact q) hfin hpt (hnar _) (hfit _) (by simpa using hj) hd (fun H1 locs1 hP1 hD1 hS1 => ?_)
  have e : (ph_w n cA ad S h).set k (ad k, .inr (ci, ((List.range nf).map (ph_f ad rf (h k))).set j (.ref (ad r)))) = ph_w n cA ad (va_up S k (.inr (.inl (ci, nf, va_up rf j (some (some r)))))) h := ph_setS (by rw [show (Value.ref (ad r)) = va_rf ((some r).map ad) from rfl, ph_fsetr]; rfl)
  rw [e] at hP1 hD1
  exact kk H1 locs1 ls hP1 hD1 hS1 hl
theorem va_up_id {α : Type} {f : Nat → α} {k : Nat} {v : α} (hv : f k = v) : va_up f k v = f := by
  funext j
  by_cases e : j = k
  · subst e
    rw [va_up_self]
    exact hv.symm
  · rw [va_up_ne _ _ e]
theorem va_up2 {α : Type} {f : Nat → α} {k : Nat} {v w : α} : va_up (va_up f k v) k w = va_up f k w := by
  funext j
  by_cases e : j = k
  · subst e
    rw [va_up_self, va_up_self]
  · rw [va_up_ne _ _ e, va_up_ne _ _ e, va_up_ne _ _ e]
/-! methods that return a place -/
def MR (l : Launch) (y : MethodName) (cc : ByteArray) (maxL : Nat) (ret : Option FieldType) (rm : Room) (Y : fj_Y) (ad : Nat → Nat) (n : Nat) (S : ph_S) (h : ph_H) (av : List Value) (k : Nat) (post : ph_S → ph_H → Prop) : Prop :=
  ∀ sz : Nat, Met l y (Cond.code y cc maxL ret :: TW) rm (wPc Y ad n S h av sz) (va_Qq (fun r (u : ph_S × ph_H) => r = some (ad k) ∧ post u.1 u.2) (fun u t => wW Y ad n u.1 u.2 (va_A (ph_w n Y.2 ad S h) sz) t) (va_A (ph_w n Y.2 ad S h) sz)) rm.cells rm.slots (va_A (ph_w n Y.2 ad S h) sz)
theorem met_r {l : Launch} {y : MethodName} {cc : ByteArray} {maxL : Nat} {ty : FieldType} {rm : Room} {Y : fj_Y} {ad : Nat → Nat} {n : Nat} {S : ph_S} {h : ph_H} {av : List Value} {k : Nat} {post : ph_S → ph_H → Prop} (hy : plainName y.cls = true) (hav : (lg_sl av).length ≤ maxL) (hrt : ∃ nm, ty = .object nm)
    (body : ∀ X : fj_X, FC X Y l cc maxL y.cls rm 0 0 (some ty) → (∀ S' h', post S' h' → ∀ pc lv, decode cc pc = .ok (.areturn, 1) → FJ X Y ad n S' h' pc lv [.ref (ad k)]) → FJ X Y ad n S h 0 (lv_args 0 av) []) : MR l y cc maxL (some ty) rm Y ad n S h av k post := by
  intro sz
  refine Met.ofW (cc := cc) (maxL := maxL) (ret := some ty) hy rfl ?_
  intro p e s m args below meth c s₁ B hml hv
  obtain ⟨rfl, hsz, hP, hK, hD0⟩ := hv
  subst hsz
  have hts := atoms_spec (ws := Cond.code y cc maxL (some ty) :: TW) B.pre
  obtain ⟨G, cA⟩ := Y
  have hD := hD0.self (sz := s.heap.size)
  have hl := lv_entry av (n := maxL) hav
  rw [lg_entry_eq]
  refine body ((p, l, e, rm), (s, m, av.toArray, below, meth, c), (0, 0, _), (maxL, va_A (ph_w n cA ad S h) s.heap.size)) ⟨B.exec, B.bytes, hml, findClass_of_methodNamed B.named, fun w hw => hts w (List.mem_cons_of_mem _ hw), hK, B.notSynchronized, rfl, rfl, rfl, rfl, B.returns, rfl, Nat.zero_le _, Nat.zero_le _, fun q hq => Or.inr hq⟩ ?_ s.heap [] _ hP hD va_S.rf hl
  intro S' h' hp pc lv hd H locs ls hP' hD' hS' hl'
  refine W.widen (k := rm.cells) (n := rm.slots) (Nat.zero_le _) (Nat.zero_le _) ?_
  exact W.aret (v := .ref (ad k)) B.exec B.bytes B.returns (Or.inl hrt) (Or.inr ⟨_, rfl⟩) (fun t ht hW => ⟨⟨some (ad k), (S', h'), rfl, ⟨rfl, hp⟩, by rw [ht]; exact hP', va_K.moved hW.alike hK, hD'⟩, hS'.F ht⟩) hS'.2.2 hd
theorem j_callVr (C : FC X Y l0 cc nL own rm mc ms ret) {y : MethodName} {c2 : ByteArray} {maxL2 ix : Nat} {ret2 : Option FieldType} {rm2 : Room} {k0 ci nf kr : Nat} {rf : Nat → Option (Option Nat)} {T : u_T} {av : List Value} {post : ph_S → ph_H → Prop} (hM : MR l0 y c2 maxL2 ret2 rm2 Y ad n S h (.ref (ad k0) :: av) kr post) (hd : decode cc pc = .ok (.invokevirtual ix, 3)) (hk : CK rm y c2 maxL2 ret2 rm2 av.length) (h0 : rm2.cells = 0 ∧ rm2.slots = 0) (hlink : Cond.methodLink own ix y ∈ TW) (hins : Cond.instanceMethod y ∈ TW) (hsel : Cond.selects y.cls y y ∈ TW) (hk0 : k0 < n) (hS0 : S k0 = .inr (.inl (ci, nf, rf))) (hcl : vwCl[ci]? = some (y.cls, T, nf)) (hstk : stk = av.reverse ++ .ref (ad k0) :: st) (hroom : (st.map fun v => v.category).sum ≤ 8) (kk : ∀ S' h', post S' h' → FJ X Y ad n S' h' (pc + 3) lv (.ref (ad kr) :: st)) : FJ X Y ad n S h pc lv stk := by
  obtain ⟨⟨p, l, e, R⟩, ⟨s, m, args, below, meth, c⟩, ⟨cells, slots, Q⟩, ⟨nL', A⟩⟩ := X
  obtain ⟨G, cA⟩ := Y
  obtain ⟨hx, hb, hml, hown, hts, hK, hlk, hR, hce, hsl, hnl, hret, htr, hmc, hms, hA⟩ := C
  subst hstk hR hce hsl hnl htr
  intro H locs ls hP hD hS hl
  have hFc : ∀ q, va_A (ph_w n cA ad S h) H.size q → A q := fun q hq => by
    rcases hq with ⟨k, e, hq⟩ | hq
    · exact hD.2 k _ hq
    · exact hA q (Nat.le_trans hS.1 hq)
  have hrc := va_recv hK hP hcl (q0 := k0) (a := ad k0) (fs := (List.range nf).map (ph_f ad rf (h k0))) (by rw [ph_at hk0, hS0]; rfl)
  refine va_callq (va_runV (As := av) (rest := st) ⟨hx, hb, hml, hown, hts⟩ (hM H.size) ⟨hk.B hts hlink, hts _ hins, hts _ hsel⟩ ⟨wPc_blind, hrc, fun U hU hW => ⟨rfl, by rw [hU], by rw [hU]; exact hP, va_K.moved hW.alike hK, hD.weaken (fun _ _ _ _ => trivial)⟩⟩ rfl rfl hl.1 rfl (lv_room hroom) hd ⟨by rw [h0.1]; exact hmc, by rw [h0.2]; exact hms⟩) hS (fun q _ hq => hFc q hq) hFc (fun r u t H1 locs1 ht hvm hp hB hz1 hk1 hS1 => ?_)
  obtain ⟨hP1, hK1, hD1⟩ := hB
  obtain ⟨hr, hp⟩ := hp
  rw [ht] at hP1
  rw [h0.1, h0.2, hr]
  exact kk u.1 u.2 hp H1 locs1 ls hP1 (hD1.weaken (fun _ _ _ hq => hFc _ hq)) hS1 hl
/-- a static void method -/
theorem j_callSv (C : FC X Y l0 cc nL own rm mc ms ret) {y : MethodName} {c2 : ByteArray} {maxL2 ix : Nat} {rm2 : Room} {av : List Value} {post : ph_S → ph_H → Prop} (hM : MV l0 y c2 maxL2 rm2 Y ad n S h av post) (hd : decode cc pc = .ok (.invokestatic ix, 3)) (hk : CK rm y c2 maxL2 none rm2 av.length) (h0 : rm2.cells = 0 ∧ rm2.slots = 0) (hlink : Cond.methodLink own ix y ∈ TW) (hst : Cond.static y ∈ TW) (hstk : stk = av.reverse ++ st) (hroom : (st.map fun v => v.category).sum ≤ 8) (kk : ∀ S' h', post S' h' → FJ X Y ad n S' h' (pc + 3) lv st) : FJ X Y ad n S h pc lv stk := by
  obtain ⟨⟨p, l, e, R⟩, ⟨s, m, args, below, meth, c⟩, ⟨cells, slots, Q⟩, ⟨nL', A⟩⟩ := X
  obtain ⟨G, cA⟩ := Y
  obtain ⟨hx, hb, hml, hown, hts, hK, hlk, hR, hce, hsl, hnl, hret, htr, hmc, hms, hA⟩ := C
  subst hstk hR hce hsl hnl htr
  intro H locs ls hP hD hS hl
  have hFc : ∀ q, va_A (ph_w n cA ad S h) H.size q → A q := fun q hq => by
    rcases hq with ⟨k, e, hq⟩ | hq
    · exact hD.2 k _ hq
    · exact hA q (Nat.le_trans hS.1 hq)
  refine va_callv (va_runS (As := av) (rest := st) ⟨hx, hb, hml, hown, hts⟩ (hM H.size) ⟨hk.B hts hlink, hts _ hst⟩ ⟨wPc_blind, fun U hU hW => ⟨rfl, by rw [hU], by rw [hU]; exact hP, va_K.moved hW.alike hK, hD.weaken (fun _ _ _ _ => trivial)⟩⟩ rfl rfl hl.1 rfl (lv_room hroom) hd ⟨by rw [h0.1]; exact hmc, by rw [h0.2]; exact hms⟩) hS (fun q _ hq => hFc q hq) hFc (fun u t H1 locs1 ht hvm hp hB hz1 hk1 hS1 => ?_)
  obtain ⟨hP1, hK1, hD1⟩ := hB
  rw [ht] at hP1
  rw [h0.1, h0.2]
  exact kk u.1 u.2 hp H1 locs1 ls hP1 (hD1.weaken (fun _ _ _ hq => hFc _ hq)) hS1 hl
end CROWS
def RETr (X : fj_X) (Y : fj_Y) (ad : Nat → Nat) (n : Nat) (S : ph_S) (cc : ByteArray) (k : Nat) (h : ph_H) : Prop := ∀ pc lv, decode cc pc = .ok (.areturn, 1) → FJ X Y ad n S h pc lv [.ref (ad k)]
