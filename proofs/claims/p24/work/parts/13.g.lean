section MG_13_crows
/-! ROWS that the class needs beyond the reference's -/
section CROWS
variable {X : fj_X} {Y : fj_Y} {l0 : Launch} {cc : ByteArray} {nL : Nat} {own : String} {rm : Room} {mc ms : Nat} {ret : Option FieldType} {ad : Nat → Nat} {n : Nat} {S : ph_S} {h : ph_H} {pc : Nat} {lv : List (Nat × Value)} {stk st : List Value}
theorem j_ishl (C : FC X Y l0 cc nL own rm mc ms ret) {x y : Int32} (hd : decode cc pc = .ok (.ishl, 1)) (k : FJ X Y ad n S h (pc + 1) lv (.int (x <<< (y &&& 31)) :: st)) : FJ X Y ad n S h pc lv (.int y :: .int x :: st) := by
  obtain ⟨⟨p, l, e, R⟩, ⟨s, m, args, below, meth, c⟩, ⟨cells, slots, Q⟩, ⟨nL', A⟩⟩ := X
  obtain ⟨G, cA⟩ := Y
  obtain ⟨hx, hb, hml, hown, hts, hK, hlk, hR, hce, hsl, hnl, hret, htr, hmc, hms, hA⟩ := C
  exact fun H locs ls hP hD hS hl => lv_ishl hx hb hd (k H locs ls hP hD hS hl)
theorem j_ishr (C : FC X Y l0 cc nL own rm mc ms ret) {x y : Int32} (hd : decode cc pc = .ok (.ishr, 1)) (k : FJ X Y ad n S h (pc + 1) lv (.int (x >>> (y &&& 31)) :: st)) : FJ X Y ad n S h pc lv (.int y :: .int x :: st) := by
  obtain ⟨⟨p, l, e, R⟩, ⟨s, m, args, below, meth, c⟩, ⟨cells, slots, Q⟩, ⟨nL', A⟩⟩ := X
  obtain ⟨G, cA⟩ := Y
  obtain ⟨hx, hb, hml, hown, hts, hK, hlk, hR, hce, hsl, hnl, hret, htr, hmc, hms, hA⟩ := C
  exact fun H locs ls hP hD hS hl => lv_ishr hx hb hd (k H locs ls hP hD hS hl)
theorem j_ixor (C : FC X Y l0 cc nL own rm mc ms ret) {x y : Int32} (hd : decode cc pc = .ok (.ixor, 1)) (k : FJ X Y ad n S h (pc + 1) lv (.int (x ^^^ y) :: st)) : FJ X Y ad n S h pc lv (.int y :: .int x :: st) := by
  obtain ⟨⟨p, l, e, R⟩, ⟨s, m, args, below, meth, c⟩, ⟨cells, slots, Q⟩, ⟨nL', A⟩⟩ := X
  obtain ⟨G, cA⟩ := Y
  obtain ⟨hx, hb, hml, hown, hts, hK, hlk, hR, hce, hsl, hnl, hret, htr, hmc, hms, hA⟩ := C
  exact fun H locs ls hP hD hS hl => lv_ixor hx hb hd (k H locs ls hP hD hS hl)
theorem j_mmax (C : FC X Y l0 cc nL own rm mc ms ret) {ix : Nat} {x y : Int32} (hd : decode cc pc = .ok (.invokestatic ix, 3)) (hlink : Cond.methodLink own ix Lib.Math.max.name ∈ TW) (hst : Cond.static Lib.Math.max.name ∈ TW) (hini : Cond.initialized "java/lang/Math" ∈ TW) (hco : Cond.code Lib.Math.max.name Lib.Math.max.code 2 (some .int) ∈ TW) (h0 : 1 ≤ rm.frames) (h1 : (st.map fun v => v.category).sum + 13 ≤ rm.locals) (k : FJ X Y ad n S h (pc + 3) lv (.int (if x < y then y else x) :: st)) : FJ X Y ad n S h pc lv (.int y :: .int x :: st) := by
  obtain ⟨⟨p, l, e, R⟩, ⟨s, m, args, below, meth, c⟩, ⟨cells, slots, Q⟩, ⟨nL', A⟩⟩ := X
  obtain ⟨G, cA⟩ := Y
  obtain ⟨hx, hb, hml, hown, hts, hK, hlk, hR, hce, hsl, hnl, hret, htr, hmc, hms, hA⟩ := C
  subst hR hce hsl hnl
  exact fun H locs ls hP hD hS hl => va_mmax hx hb (hml.trans hl.1.symm) hown (hts _ hlink) (hts _ hst) (hts _ hini) (hts _ hco) h0 h1 hmc hms hd (k H locs ls hP hD hS hl)
/-- a piece of one int row into another (or the same) -/
def hc (h : ph_H) (k0 k1 : Nat) (sp dp m : Int32) : ph_H := va_up h k1 (va_cpy (h k0) (h k1) sp.toNatClampNeg dp.toNatClampNeg m.toNatClampNeg)
def cpok (sp dp m : Int32) (n0 n1 : Nat) : Prop := ¬ sp < 0 ∧ ¬ dp < 0 ∧ ¬ m < 0 ∧ sp.toNatClampNeg + m.toNatClampNeg ≤ n0 ∧ dp.toNatClampNeg + m.toNatClampNeg ≤ n1
theorem j_copy (C : FC X Y l0 cc nL own rm mc ms ret) {ix k0 k1 n0 n1 : Nat} {sp dp m : Int32} (hd : decode cc pc = .ok (.invokestatic ix, 3)) (hlink : Cond.methodLink own ix arraycopyName ∈ TW) (hnat : Cond.native arraycopyName ∈ TW) (hst : Cond.static arraycopyName ∈ TW) (hini : Cond.initialized "java/lang/System" ∈ TW) (hk0 : k0 < n) (hS0 : S k0 = .inl (0, n0)) (hk1 : k1 < n) (hS1 : S k1 = .inl (0, n1)) (q : cpok sp dp m n0 n1) (h0 : 1 ≤ rm.frames) (h1 : (st.map fun v => v.category).sum + (nativeFrameWords "java/lang/System" "arraycopy" 5 + 11) ≤ rm.locals) (k : FJ X Y ad n S (hc h k0 k1 sp dp m) (pc + 3) lv st) : FJ X Y ad n S h pc lv (.int m :: .int dp :: .ref (ad k1) :: .int sp :: .ref (ad k0) :: st) := by
  obtain ⟨⟨p, l, e, R⟩, ⟨s, m', args, below, meth, c⟩, ⟨cells, slots, Q⟩, ⟨nL', A⟩⟩ := X
  obtain ⟨G, cA⟩ := Y
  obtain ⟨hx, hb, hml, hown, hts, hK, hlk, hR, hce, hsl, hnl, hret, htr, hmc, hms, hA⟩ := C
  subst hR hce hsl hnl
  refine fun H locs ls hP hD hS hl => va_copyi (ty := .int) hx hb (hml.trans hl.1.symm) hown (hts _ hlink) (hts _ hnat) (hts _ hst) (hts _ hini) hK hP hD hS k0 k1 0 0 (by rw [ph_at hk0, hS0]; rfl) (by rw [ph_at hk1, hS1]; rfl) rfl rfl rfl q.1 q.2.1 q.2.2.1 q.2.2.2.1 q.2.2.2.2 (fun _ _ => rfl) h0 h1 hd (fun H1 locs1 hP1 hD1 hS1' => ?_)
  have e : (ph_w n cA ad S h).set k1 (ad k1, .inl (cA 0, n1, .inl (va_cpy (h k0) (h k1) sp.toNatClampNeg dp.toNatClampNeg m.toNatClampNeg))) = ph_w n cA ad S (hc h k0 k1 sp dp m) := ph_seth (by rw [hS1]; rfl)
  rw [e] at hP1 hD1
  exact k H1 locs1 ls hP1 hD1 hS1' hl
/-- a row out of a row of int rows -/
theorem j_aald (C : FC X Y l0 cc nL own rm mc ms ret) {k0 len r : Nat} {g : Nat → Option Nat} {i : Int32} (hd : decode cc pc = .ok (.aaload, 1)) (hk : k0 < n) (hS0 : S k0 = .inr (.inr (4, len, g))) (hi : vp_in i len) (hg : g i.toNatClampNeg = some r) (k : FJ X Y ad n S h (pc + 1) lv (.ref (ad r) :: st)) : FJ X Y ad n S h pc lv (.int i :: .ref (ad k0) :: st) := by
  obtain ⟨⟨p, l, e, R⟩, ⟨s, m, args, below, meth, c⟩, ⟨cells, slots, Q⟩, ⟨nL', A⟩⟩ := X
  obtain ⟨G, cA⟩ := Y
  obtain ⟨hx, hb, hml, hown, hts, hK, hlk, hR, hce, hsl, hnl, hret, htr, hmc, hms, hA⟩ := C
  intro H locs ls hP hD hS hl
  have hlt : i.toNatClampNeg < len := Nat.not_le.mp fun q => hi (Or.inr q)
  have ha : (ph_w n cA ad S h)[k0]? = some (ad k0, .inl (cA 4, len, .inr (.inr (.inr (.inr (fun i => (g i).map ad)))))) := by rw [ph_at hk, hS0]; rfl
  have ht : (tyl cA)[4]? = some (cA 4, .array .int) := rfl
  have ev : va_rf ((g i.toNatClampNeg).map ad) = .ref (ad r) := by rw [hg]; rfl
  refine W.aald (v := va_rf ((g i.toNatClampNeg).map ad)) (ty := .array .int) hx hb (hP k0 _ ha) ((hK.2 4 _ ht).1 len (fun j => va_rf ((g j).map ad))) rfl (fun q => by cases q) (by show ¬ (i < 0 ∨ (arrV _ _ _).slots.size ≤ _); rw [arrV_size]; exact hi) (by show (arrV _ _ _).slots[_]? = _; rw [arrV_read _ _ hlt]) rfl rfl hd ?_
  rw [ev]
  exact k H locs ls hP hD hS hl
/-- a field that refers gets another place -/
theorem j_putr (C : FC X Y l0 cc nL own rm mc ms ret) {ix k ci nf j r : Nat} {rf : Nat → Option (Option Nat)} {Cn ref : String} {T : u_T} {ty0 : Nat → FieldType} {ty : FieldType} (hd : decode cc pc = .ok (.putfield ix, 3)) (hk : k < n) (hS0 : S k = .inr (.inl (ci, nf, rf))) (hcl : vwCl[ci]? = some (Cn, T, nf)) (hin : ∀ w ∈ u_ws Cn T nf, w ∈ TW) (hty : ∀ k, k < nf → parseFieldDescriptor (T k).2.2.1 = some (ty0 k)) (hnm : ∀ a, a < nf → ∀ b, b < nf → a ≠ b → (T a).2.1 ≠ (T b).2.1) (hj : j < nf) (hlink : Cond.fieldLink own ix ref (T j).2.1 (T j).2.2.1 ∈ TW) (hsame : (T j).1 = ref) (hfin : (T j).2.2.2 = false) (hpt : parseFieldDescriptor (T j).2.2.1 = some ty) (hnar : ∀ a : Nat, narrow ty (.ref a) = .ref a) (hfit : ∀ a : Nat, fits ty (.ref a) = true) (kk : FJ X Y ad n (va_up S k (.inr (.inl (ci, nf, va_up rf j (some (some r)))))) h (pc + 3) lv st) : FJ X Y ad n S h pc lv (.ref (ad r) :: .ref (ad k) :: st) := by
  obtain ⟨⟨p, l, e, R⟩, ⟨s, m, args, below, meth, c⟩, ⟨cells, slots, Q⟩, ⟨nL', A⟩⟩ := X
  obtain ⟨G, cA⟩ := Y
  obtain ⟨hx, hb, hml, hown, hts, hK, hlk, hR, hce, hsl, hnl, hret, htr, hmc, hms, hA⟩ := C
  refine fun H locs ls hP hD hS hl => va_put (D := (G)) hx hb hts hin ty0 hty hnm hown hK hP hD hS k (by rw [ph_at hk, hS0]; rfl) hcl j hj (hts _ hlink) (fun _ q => by rw [← hsame]; exact q) hfin hpt (hnar _) (hfit _) (by simpa using hj) hd (fun H1 locs1 hP1 hD1 hS1 => ?_)
  have e : (ph_w n cA ad S h).set k (ad k, .inr (ci, ((List.range nf).map (ph_f ad rf (h k))).set j (.ref (ad r)))) = ph_w n cA ad (va_up S k (.inr (.inl (ci, nf, va_up rf j (some (some r)))))) h := ph_setS (by rw [show (Value.ref (ad r)) = va_rf ((some r).map ad) from rfl, ph_fsetr]; rfl)
  rw [e] at hP1 hD1
  exact kk H1 locs1 ls hP1 hD1 hS1 hl
theorem va_up_id {α : Type} {f : Nat → α} {k : Nat} {v : α} (hv : f k = v) : va_up f k v = f := by
  funext j
  by_cases e : j = k
  · subst e
    rw [va_up_self]
    exact hv.symm
  · rw [va_up_ne _ _ e]
theorem va_up2 {α : Type} {f : Nat → α} {k : Nat} {v w : α} : va_up (va_up f k v) k w = va_up f k w := by
  funext j
  by_cases e : j = k
  · subst e
    rw [va_up_self, va_up_self]
  · rw [va_up_ne _ _ e, va_up_ne _ _ e, va_up_ne _ _ e]
/-! methods that return a place -/
def MR (l : Launch) (y : MethodName) (cc : ByteArray) (maxL : Nat) (ret : Option FieldType) (rm : Room) (Y : fj_Y) (ad : Nat → Nat) (n : Nat) (S : ph_S) (h : ph_H) (av : List Value) (k : Nat) (post : ph_S → ph_H → Prop) : Prop :=
  ∀ sz : Nat, Met l y (Cond.code y cc maxL ret :: TW) rm (wPc Y ad n S h av sz) (va_Qq (fun r (u : ph_S × ph_H) => r = some (ad k) ∧ post u.1 u.2) (fun u t => wW Y ad n u.1 u.2 (va_A (ph_w n Y.2 ad S h) sz) t) (va_A (ph_w n Y.2 ad S h) sz)) rm.cells rm.slots (va_A (ph_w n Y.2 ad S h) sz)
theorem met_r {l : Launch} {y : MethodName} {cc : ByteArray} {maxL : Nat} {ty : FieldType} {rm : Room} {Y : fj_Y} {ad : Nat → Nat} {n : Nat} {S : ph_S} {h : ph_H} {av : List Value} {k : Nat} {post : ph_S → ph_H → Prop} (hy : plainName y.cls = true) (hav : (lg_sl av).length ≤ maxL) (hrt : ∃ nm, ty = .object nm)
    (body : ∀ X : fj_X, FC X Y l cc maxL y.cls rm 0 0 (some ty) → (∀ S' h', post S' h' → ∀ pc lv, decode cc pc = .ok (.areturn, 1) → FJ X Y ad n S' h' pc lv [.ref (ad k)]) → FJ X Y ad n S h 0 (lv_args 0 av) []) : MR l y cc maxL (some ty) rm Y ad n S h av k post := by
  intro sz
  refine Met.ofW (cc := cc) (maxL := maxL) (ret := some ty) hy rfl ?_
  intro p e s m args below meth c s₁ B hml hv
  obtain ⟨rfl, hsz, hP, hK, hD0⟩ := hv
  subst hsz
  have hts := atoms_spec (ws := Cond.code y cc maxL (some ty) :: TW) B.pre
  obtain ⟨G, cA⟩ := Y
  have hD := hD0.self (sz := s.heap.size)
  have hl := lv_entry av (n := maxL) hav
  rw [lg_entry_eq]
  refine body ((p, l, e, rm), (s, m, av.toArray, below, meth, c), (0, 0, _), (maxL, va_A (ph_w n cA ad S h) s.heap.size)) ⟨B.exec, B.bytes, hml, findClass_of_methodNamed B.named, fun w hw => hts w (List.mem_cons_of_mem _ hw), hK, B.notSynchronized, rfl, rfl, rfl, rfl, B.returns, rfl, Nat.zero_le _, Nat.zero_le _, fun q hq => Or.inr hq⟩ ?_ s.heap [] _ hP hD va_S.rf hl
  intro S' h' hp pc lv hd H locs ls hP' hD' hS' hl'
  refine W.widen (k := rm.cells) (n := rm.slots) (Nat.zero_le _) (Nat.zero_le _) ?_
  exact W.aret (v := .ref (ad k)) B.exec B.bytes B.returns (Or.inl hrt) (Or.inr ⟨_, rfl⟩) (fun t ht hW => ⟨⟨some (ad k), (S', h'), rfl, ⟨rfl, hp⟩, by rw [ht]; exact hP', va_K.moved hW.alike hK, hD'⟩, hS'.F ht⟩) hS'.2.2 hd
theorem j_callVr (C : FC X Y l0 cc nL own rm mc ms ret) {y : MethodName} {c2 : ByteArray} {maxL2 ix : Nat} {ret2 : Option FieldType} {rm2 : Room} {k0 ci nf kr : Nat} {rf : Nat → Option (Option Nat)} {T : u_T} {av : List Value} {post : ph_S → ph_H → Prop} (hM : MR l0 y c2 maxL2 ret2 rm2 Y ad n S h (.ref (ad k0) :: av) kr post) (hd : decode cc pc = .ok (.invokevirtual ix, 3)) (hk : CK rm y c2 maxL2 ret2 rm2 av.length) (h0 : rm2.cells = 0 ∧ rm2.slots = 0) (hlink : Cond.methodLink own ix y ∈ TW) (hins : Cond.instanceMethod y ∈ TW) (hsel : Cond.selects y.cls y y ∈ TW) (hk0 : k0 < n) (hS0 : S k0 = .inr (.inl (ci, nf, rf))) (hcl : vwCl[ci]? = some (y.cls, T, nf)) (hstk : stk = av.reverse ++ .ref (ad k0) :: st) (hroom : (st.map fun v => v.category).sum ≤ 8) (kk : ∀ S' h', post S' h' → FJ X Y ad n S' h' (pc + 3) lv (.ref (ad kr) :: st)) : FJ X Y ad n S h pc lv stk := by
  obtain ⟨⟨p, l, e, R⟩, ⟨s, m, args, below, meth, c⟩, ⟨cells, slots, Q⟩, ⟨nL', A⟩⟩ := X
  obtain ⟨G, cA⟩ := Y
  obtain ⟨hx, hb, hml, hown, hts, hK, hlk, hR, hce, hsl, hnl, hret, htr, hmc, hms, hA⟩ := C
  subst hstk hR hce hsl hnl htr
  intro H locs ls hP hD hS hl
  have hFc : ∀ q, va_A (ph_w n cA ad S h) H.size q → A q := fun q hq => by
    rcases hq with ⟨k, e, hq⟩ | hq
    · exact hD.2 k _ hq
    · exact hA q (Nat.le_trans hS.1 hq)
  have hrc := va_recv hK hP hcl (q0 := k0) (a := ad k0) (fs := (List.range nf).map (ph_f ad rf (h k0))) (by rw [ph_at hk0, hS0]; rfl)
  refine va_callq (va_runV (As := av) (rest := st) ⟨hx, hb, hml, hown, hts⟩ (hM H.size) ⟨hk.B hts hlink, hts _ hins, hts _ hsel⟩ ⟨wPc_blind, hrc, fun U hU hW => ⟨rfl, by rw [hU], by rw [hU]; exact hP, va_K.moved hW.alike hK, hD.weaken (fun _ _ _ _ => trivial)⟩⟩ rfl rfl hl.1 rfl (lv_room hroom) hd ⟨by rw [h0.1]; exact hmc, by rw [h0.2]; exact hms⟩) hS (fun q _ hq => hFc q hq) hFc (fun r u t H1 locs1 ht hvm hp hB hz1 hk1 hS1 => ?_)
  obtain ⟨hP1, hK1, hD1⟩ := hB
  obtain ⟨hr, hp⟩ := hp
  rw [ht] at hP1
  rw [h0.1, h0.2, hr]
  exact kk u.1 u.2 hp H1 locs1 ls hP1 (hD1.weaken (fun _ _ _ hq => hFc _ hq)) hS1 hl
/-- a static void method -/
theorem j_callSv (C : FC X Y l0 cc nL own rm mc ms ret) {y : MethodName} {c2 : ByteArray} {maxL2 ix : Nat} {rm2 : Room} {av : List Value} {post : ph_S → ph_H → Prop} (hM : MV l0 y c2 maxL2 rm2 Y ad n S h av post) (hd : decode cc pc = .ok (.invokestatic ix, 3)) (hk : CK rm y c2 maxL2 none rm2 av.length) (h0 : rm2.cells = 0 ∧ rm2.slots = 0) (hlink : Cond.methodLink own ix y ∈ TW) (hst : Cond.static y ∈ TW) (hstk : stk = av.reverse ++ st) (hroom : (st.map fun v => v.category).sum ≤ 8) (kk : ∀ S' h', post S' h' → FJ X Y ad n S' h' (pc + 3) lv st) : FJ X Y ad n S h pc lv stk := by
  obtain ⟨⟨p, l, e, R⟩, ⟨s, m, args, below, meth, c⟩, ⟨cells, slots, Q⟩, ⟨nL', A⟩⟩ := X
  obtain ⟨G, cA⟩ := Y
  obtain ⟨hx, hb, hml, hown, hts, hK, hlk, hR, hce, hsl, hnl, hret, htr, hmc, hms, hA⟩ := C
  subst hstk hR hce hsl hnl htr
  intro H locs ls hP hD hS hl
  have hFc : ∀ q, va_A (ph_w n cA ad S h) H.size q → A q := fun q hq => by
    rcases hq with ⟨k, e, hq⟩ | hq
    · exact hD.2 k _ hq
    · exact hA q (Nat.le_trans hS.1 hq)
  refine va_callv (va_runS (As := av) (rest := st) ⟨hx, hb, hml, hown, hts⟩ (hM H.size) ⟨hk.B hts hlink, hts _ hst⟩ ⟨wPc_blind, fun U hU hW => ⟨rfl, by rw [hU], by rw [hU]; exact hP, va_K.moved hW.alike hK, hD.weaken (fun _ _ _ _ => trivial)⟩⟩ rfl rfl hl.1 rfl (lv_room hroom) hd ⟨by rw [h0.1]; exact hmc, by rw [h0.2]; exact hms⟩) hS (fun q _ hq => hFc q hq) hFc (fun u t H1 locs1 ht hvm hp hB hz1 hk1 hS1 => ?_)
  obtain ⟨hP1, hK1, hD1⟩ := hB
  rw [ht] at hP1
  rw [h0.1, h0.2]
  exact kk u.1 u.2 hp H1 locs1 ls hP1 (hD1.weaken (fun _ _ _ hq => hFc _ hq)) hS1 hl
end CROWS
def RETr (X : fj_X) (Y : fj_Y) (ad : Nat → Nat) (n : Nat) (S : ph_S) (cc : ByteArray) (k : Nat) (h : ph_H) : Prop := ∀ pc lv, decode cc pc = .ok (.areturn, 1) → FJ X Y ad n S h pc lv [.ref (ad k)]
end MG_13_crows
section MG_14_cls
/-! THE CLASS: its objects and rows; pr is the place of the other machine's program; SHELVES and what they hold stand behind. -/
def rfC_0 : Nat → Option (Option Nat) := fun j => match j with
  | 0 => some (some 1)
  | 1 => some (some 8)
  | 2 => some (some 15)
  | 3 => some (some 25)
  | 4 => some (some 35)
  | 5 => some (some 47)
  | 6 => some (some 52)
  | 7 => some (some 59)
  | _ => none
def rfC_1 : Nat → Option (Option Nat) := fun j => match j with
  | 0 => some (some 2)
  | 1 => some (some 3)
  | 2 => some (some 4)
  | 3 => some (some 5)
  | 4 => some (some 6)
  | 5 => some (some 7)
  | _ => none
def rfC_8 : Nat → Option (Option Nat) := fun j => match j with
  | 0 => some (some 9)
  | 1 => some (some 10)
  | 2 => some (some 11)
  | 3 => some (some 12)
  | 4 => some (some 13)
  | 5 => some (some 14)
  | _ => none
def rfC_15 : Nat → Option (Option Nat) := fun j => match j with
  | 0 => some (some 16)
  | 1 => some (some 17)
  | 2 => some (some 18)
  | 3 => some (some 19)
  | 4 => some (some 20)
  | 5 => some (some 21)
  | 6 => some (some 22)
  | 7 => some (some 23)
  | 8 => some (some 24)
  | 9 => some (some 8)
  | _ => none
def rfC_25 : Nat → Option (Option Nat) := fun j => match j with
  | 0 => some (some 26)
  | 1 => some (some 27)
  | 2 => some (some 28)
  | 3 => some (some 29)
  | 4 => some (some 30)
  | 5 => some (some 31)
  | 6 => some (some 32)
  | 7 => some (some 33)
  | 8 => some (some 34)
  | _ => none
def rfC_35 : Nat → Option (Option Nat) := fun j => match j with
  | 0 => some (some 36)
  | 1 => some (some 37)
  | 2 => some (some 38)
  | 3 => some (some 39)
  | 4 => some (some 40)
  | 5 => some (some 41)
  | 6 => some (some 42)
  | 7 => some (some 43)
  | 8 => some (some 44)
  | 9 => some (some 45)
  | 10 => some (some 46)
  | _ => none
def rfC_47 : Nat → Option (Option Nat) := fun j => match j with
  | 0 => some (some 35)
  | 1 => some (some 48)
  | 2 => some (some 49)
  | 3 => some (some 50)
  | 4 => some (some 51)
  | _ => none
def rfC_52 : Nat → Option (Option Nat) := fun j => match j with
  | 0 => some (some 1)
  | 1 => some (some 25)
  | 2 => some (some 56)
  | 3 => some (some 53)
  | 4 => some (some 54)
  | 5 => some (some 55)
  | _ => none
def rfO (pr : Nat) : Nat → Option (Option Nat) := va_up rfC_25 9 (some (some pr))
def opf (i : Nat) : Option Nat := if i < 2 then some (57 + i) else none
def SC (pr k : Nat) : ph_E := match k with
  | 0 => .inr (.inl (10, 13, rfC_0))
  | 1 => .inr (.inl (4, 8, rfC_1))
  | 2 => .inl (0, 4)
  | 3 => .inl (0, 384)
  | 4 => .inl (0, 12)
  | 5 => .inl (0, 30)
  | 6 => .inl (0, 40)
  | 7 => .inl (0, 40)
  | 8 => .inr (.inl (4, 8, rfC_8))
  | 9 => .inl (0, 4)
  | 10 => .inl (0, 384)
  | 11 => .inl (0, 12)
  | 12 => .inl (0, 30)
  | 13 => .inl (0, 40)
  | 14 => .inl (0, 40)
  | 15 => .inr (.inl (2, 18, rfC_15))
  | 16 => .inl (0, 28)
  | 17 => .inl (0, 28)
  | 18 => .inl (0, 4)
  | 19 => .inl (0, 4)
  | 20 => .inl (0, 4)
  | 21 => .inl (0, 12)
  | 22 => .inl (0, 12)
  | 23 => .inl (0, 12)
  | 24 => .inl (0, 192)
  | 25 => .inr (.inl (2, 18, rfO pr))
  | 26 => .inl (0, 28)
  | 27 => .inl (0, 28)
  | 28 => .inl (0, 4)
  | 29 => .inl (0, 4)
  | 30 => .inl (0, 4)
  | 31 => .inl (0, 12)
  | 32 => .inl (0, 12)
  | 33 => .inl (0, 12)
  | 34 => .inl (0, 192)
  | 35 => .inr (.inl (9, 17, rfC_35))
  | 36 => .inl (0, 301)
  | 37 => .inl (0, 301)
  | 38 => .inl (0, 301)
  | 39 => .inl (0, 301)
  | 40 => .inl (0, 301)
  | 41 => .inl (0, 301)
  | 42 => .inl (0, 301)
  | 43 => .inl (0, 301)
  | 44 => .inl (0, 301)
  | 45 => .inl (0, 300)
  | 46 => .inl (0, 300)
  | 47 => .inr (.inl (3, 7, rfC_47))
  | 48 => .inl (0, 1204)
  | 49 => .inl (0, 16)
  | 50 => .inl (0, 48)
  | 51 => .inl (0, 301)
  | 52 => .inr (.inl (5, 11, rfC_52))
  | 53 => .inl (0, 2)
  | 54 => .inl (0, 2)
  | 55 => .inl (0, 2)
  | 56 => .inr (.inr (4, 2, opf))
  | 57 => .inl (0, 300)
  | 58 => .inl (0, 300)
  | _ => .inl (0, 0)
def WS (pr n : Nat) (S : ph_S) : Prop := 60 ≤ n ∧ ∀ k, k < 59 → S k = SC pr k
theorem WS.lt {pr n : Nat} {S : ph_S} (W : WS pr n S) (k : Nat) (h : k < 60) : k < n := Nat.lt_of_lt_of_le h W.1
theorem sh_0 {pr n : Nat} {S : ph_S} (W : WS pr n S) : S 0 = .inr (.inl (10, 13, rfC_0)) := W.2 0 (by decide)
theorem sh_1 {pr n : Nat} {S : ph_S} (W : WS pr n S) : S 1 = .inr (.inl (4, 8, rfC_1)) := W.2 1 (by decide)
theorem sh_2 {pr n : Nat} {S : ph_S} (W : WS pr n S) : S 2 = .inl (0, 4) := W.2 2 (by decide)
theorem sh_3 {pr n : Nat} {S : ph_S} (W : WS pr n S) : S 3 = .inl (0, 384) := W.2 3 (by decide)
theorem sh_4 {pr n : Nat} {S : ph_S} (W : WS pr n S) : S 4 = .inl (0, 12) := W.2 4 (by decide)
theorem sh_5 {pr n : Nat} {S : ph_S} (W : WS pr n S) : S 5 = .inl (0, 30) := W.2 5 (by decide)
theorem sh_6 {pr n : Nat} {S : ph_S} (W : WS pr n S) : S 6 = .inl (0, 40) := W.2 6 (by decide)
theorem sh_7 {pr n : Nat} {S : ph_S} (W : WS pr n S) : S 7 = .inl (0, 40) := W.2 7 (by decide)
theorem sh_8 {pr n : Nat} {S : ph_S} (W : WS pr n S) : S 8 = .inr (.inl (4, 8, rfC_8)) := W.2 8 (by decide)
theorem sh_9 {pr n : Nat} {S : ph_S} (W : WS pr n S) : S 9 = .inl (0, 4) := W.2 9 (by decide)
theorem sh_10 {pr n : Nat} {S : ph_S} (W : WS pr n S) : S 10 = .inl (0, 384) := W.2 10 (by decide)
theorem sh_11 {pr n : Nat} {S : ph_S} (W : WS pr n S) : S 11 = .inl (0, 12) := W.2 11 (by decide)
theorem sh_12 {pr n : Nat} {S : ph_S} (W : WS pr n S) : S 12 = .inl (0, 30) := W.2 12 (by decide)
theorem sh_13 {pr n : Nat} {S : ph_S} (W : WS pr n S) : S 13 = .inl (0, 40) := W.2 13 (by decide)
theorem sh_14 {pr n : Nat} {S : ph_S} (W : WS pr n S) : S 14 = .inl (0, 40) := W.2 14 (by decide)
theorem sh_15 {pr n : Nat} {S : ph_S} (W : WS pr n S) : S 15 = .inr (.inl (2, 18, rfC_15)) := W.2 15 (by decide)
theorem sh_16 {pr n : Nat} {S : ph_S} (W : WS pr n S) : S 16 = .inl (0, 28) := W.2 16 (by decide)
theorem sh_17 {pr n : Nat} {S : ph_S} (W : WS pr n S) : S 17 = .inl (0, 28) := W.2 17 (by decide)
theorem sh_18 {pr n : Nat} {S : ph_S} (W : WS pr n S) : S 18 = .inl (0, 4) := W.2 18 (by decide)
theorem sh_19 {pr n : Nat} {S : ph_S} (W : WS pr n S) : S 19 = .inl (0, 4) := W.2 19 (by decide)
theorem sh_20 {pr n : Nat} {S : ph_S} (W : WS pr n S) : S 20 = .inl (0, 4) := W.2 20 (by decide)
theorem sh_21 {pr n : Nat} {S : ph_S} (W : WS pr n S) : S 21 = .inl (0, 12) := W.2 21 (by decide)
theorem sh_22 {pr n : Nat} {S : ph_S} (W : WS pr n S) : S 22 = .inl (0, 12) := W.2 22 (by decide)
theorem sh_23 {pr n : Nat} {S : ph_S} (W : WS pr n S) : S 23 = .inl (0, 12) := W.2 23 (by decide)
theorem sh_24 {pr n : Nat} {S : ph_S} (W : WS pr n S) : S 24 = .inl (0, 192) := W.2 24 (by decide)
theorem sh_25 {pr n : Nat} {S : ph_S} (W : WS pr n S) : S 25 = .inr (.inl (2, 18, rfO pr)) := W.2 25 (by decide)
theorem sh_26 {pr n : Nat} {S : ph_S} (W : WS pr n S) : S 26 = .inl (0, 28) := W.2 26 (by decide)
theorem sh_27 {pr n : Nat} {S : ph_S} (W : WS pr n S) : S 27 = .inl (0, 28) := W.2 27 (by decide)
theorem sh_28 {pr n : Nat} {S : ph_S} (W : WS pr n S) : S 28 = .inl (0, 4) := W.2 28 (by decide)
theorem sh_29 {pr n : Nat} {S : ph_S} (W : WS pr n S) : S 29 = .inl (0, 4) := W.2 29 (by decide)
theorem sh_30 {pr n : Nat} {S : ph_S} (W : WS pr n S) : S 30 = .inl (0, 4) := W.2 30 (by decide)
theorem sh_31 {pr n : Nat} {S : ph_S} (W : WS pr n S) : S 31 = .inl (0, 12) := W.2 31 (by decide)
theorem sh_32 {pr n : Nat} {S : ph_S} (W : WS pr n S) : S 32 = .inl (0, 12) := W.2 32 (by decide)
theorem sh_33 {pr n : Nat} {S : ph_S} (W : WS pr n S) : S 33 = .inl (0, 12) := W.2 33 (by decide)
theorem sh_34 {pr n : Nat} {S : ph_S} (W : WS pr n S) : S 34 = .inl (0, 192) := W.2 34 (by decide)
theorem sh_35 {pr n : Nat} {S : ph_S} (W : WS pr n S) : S 35 = .inr (.inl (9, 17, rfC_35)) := W.2 35 (by decide)
theorem sh_36 {pr n : Nat} {S : ph_S} (W : WS pr n S) : S 36 = .inl (0, 301) := W.2 36 (by decide)
theorem sh_37 {pr n : Nat} {S : ph_S} (W : WS pr n S) : S 37 = .inl (0, 301) := W.2 37 (by decide)
theorem sh_38 {pr n : Nat} {S : ph_S} (W : WS pr n S) : S 38 = .inl (0, 301) := W.2 38 (by decide)
theorem sh_39 {pr n : Nat} {S : ph_S} (W : WS pr n S) : S 39 = .inl (0, 301) := W.2 39 (by decide)
theorem sh_40 {pr n : Nat} {S : ph_S} (W : WS pr n S) : S 40 = .inl (0, 301) := W.2 40 (by decide)
theorem sh_41 {pr n : Nat} {S : ph_S} (W : WS pr n S) : S 41 = .inl (0, 301) := W.2 41 (by decide)
theorem sh_42 {pr n : Nat} {S : ph_S} (W : WS pr n S) : S 42 = .inl (0, 301) := W.2 42 (by decide)
theorem sh_43 {pr n : Nat} {S : ph_S} (W : WS pr n S) : S 43 = .inl (0, 301) := W.2 43 (by decide)
theorem sh_44 {pr n : Nat} {S : ph_S} (W : WS pr n S) : S 44 = .inl (0, 301) := W.2 44 (by decide)
theorem sh_45 {pr n : Nat} {S : ph_S} (W : WS pr n S) : S 45 = .inl (0, 300) := W.2 45 (by decide)
theorem sh_46 {pr n : Nat} {S : ph_S} (W : WS pr n S) : S 46 = .inl (0, 300) := W.2 46 (by decide)
theorem sh_47 {pr n : Nat} {S : ph_S} (W : WS pr n S) : S 47 = .inr (.inl (3, 7, rfC_47)) := W.2 47 (by decide)
theorem sh_48 {pr n : Nat} {S : ph_S} (W : WS pr n S) : S 48 = .inl (0, 1204) := W.2 48 (by decide)
theorem sh_49 {pr n : Nat} {S : ph_S} (W : WS pr n S) : S 49 = .inl (0, 16) := W.2 49 (by decide)
theorem sh_50 {pr n : Nat} {S : ph_S} (W : WS pr n S) : S 50 = .inl (0, 48) := W.2 50 (by decide)
theorem sh_51 {pr n : Nat} {S : ph_S} (W : WS pr n S) : S 51 = .inl (0, 301) := W.2 51 (by decide)
theorem sh_52 {pr n : Nat} {S : ph_S} (W : WS pr n S) : S 52 = .inr (.inl (5, 11, rfC_52)) := W.2 52 (by decide)
theorem sh_53 {pr n : Nat} {S : ph_S} (W : WS pr n S) : S 53 = .inl (0, 2) := W.2 53 (by decide)
theorem sh_54 {pr n : Nat} {S : ph_S} (W : WS pr n S) : S 54 = .inl (0, 2) := W.2 54 (by decide)
theorem sh_55 {pr n : Nat} {S : ph_S} (W : WS pr n S) : S 55 = .inl (0, 2) := W.2 55 (by decide)
theorem sh_56 {pr n : Nat} {S : ph_S} (W : WS pr n S) : S 56 = .inr (.inr (4, 2, opf)) := W.2 56 (by decide)
theorem sh_57 {pr n : Nat} {S : ph_S} (W : WS pr n S) : S 57 = .inl (0, 300) := W.2 57 (by decide)
theorem sh_58 {pr n : Nat} {S : ph_S} (W : WS pr n S) : S 58 = .inl (0, 300) := W.2 58 (by decide)
theorem op_in {i : Int32} (q : vp_in i 2) : i.toNatClampNeg = 0 ∨ i.toNatClampNeg = 1 := by
  have h : i.toNatClampNeg < 2 := Nat.not_le.mp fun z => q (Or.inr z)
  omega
theorem opg {i : Int32} (q : vp_in i 2) : opf i.toNatClampNeg = some (57 + i.toNatClampNeg) := by
  have h : i.toNatClampNeg < 2 := Nat.not_le.mp fun z => q (Or.inr z)
  unfold opf
  rw [if_pos h]
theorem op_lt {pr n : Nat} {S : ph_S} {i : Int32} (W : WS pr n S) (q : vp_in i 2) : 57 + i.toNatClampNeg < n := by
  have h1 := W.1
  rcases op_in q with e | e <;> omega
theorem op_sh {pr n : Nat} {S : ph_S} {i : Int32} (W : WS pr n S) (q : vp_in i 2) : S (57 + i.toNatClampNeg) = .inl (0, 300) := by
  rcases op_in q with e | e
  · rw [e]
    exact sh_57 W
  · rw [e]
    exact sh_58 W
def spr (S : ph_S) (p : Nat) : ph_S := va_up S 25 (.inr (.inl (2, 18, rfO p)))
def Sp (S S' : ph_S) : Prop := S' = S ∨ S' = spr S 1 ∨ S' = spr S 8
theorem spr_W {pr n p : Nat} {S : ph_S} (W : WS pr n S) : WS p n (spr S p) := by
  refine ⟨W.1, fun k hk => ?_⟩
  by_cases e : k = 25
  · subst e
    unfold spr
    rw [va_up_self]
    rfl
  · unfold spr
    rw [va_up_ne _ _ e, W.2 k hk]
    unfold SC
    split <;> first | rfl | exact absurd rfl e
theorem spr_id {pr n : Nat} {S : ph_S} (W : WS pr n S) : spr S pr = S := va_up_id (sh_25 W)
theorem spr_pr {S : ph_S} {p q : Nat} : spr (spr S p) q = spr S q := va_up2
set_option maxRecDepth 100000 in
theorem inX3 : ∀ w ∈ u_ws RX3 TX3 18, w ∈ TW := TW_lays [117, 119, 121, 123, 125, 127, 129, 131, 133, 135, 137, 139, 141, 143, 145, 147, 149, 151] (by decide +kernel)
set_option maxRecDepth 100000 in
theorem inX4 : ∀ w ∈ u_ws RX4 TX4 7, w ∈ TW := TW_lays [245, 247, 249, 251, 253, 255, 257] (by decide +kernel)
set_option maxRecDepth 100000 in
theorem inX5 : ∀ w ∈ u_ws RX5 TX5 8, w ∈ TW := TW_lays [60, 62, 64, 66, 68, 70, 72, 74] (by decide +kernel)
set_option maxRecDepth 100000 in
theorem inX6 : ∀ w ∈ u_ws RX6 TX6 11, w ∈ TW := TW_lays [285, 287, 289, 291, 293, 295, 297, 299, 301, 303, 305] (by decide +kernel)
set_option maxRecDepth 100000 in
theorem inX10 : ∀ w ∈ u_ws RX10 TX10 17, w ∈ TW := TW_lays [196, 198, 200, 202, 204, 206, 208, 210, 212, 214, 216, 218, 220, 222, 224, 226, 228] (by decide +kernel)
set_option maxRecDepth 100000 in
theorem inX11 : ∀ w ∈ u_ws RX11 TX11 13, w ∈ TW := TW_lays [323, 325, 327, 329, 331, 333, 335, 337, 339, 341, 343, 345, 347] (by decide +kernel)
section CF
variable {X : fj_X} {Y : fj_Y} {l0 : Launch} {cc : ByteArray} {nL : Nat} {rm : Room} {mc ms : Nat} {ret : Option FieldType} {ad : Nat → Nat} {n : Nat} {S : ph_S} {h : ph_H} {pc : Nat} {lv : List (Nat × Value)} {st : List Value}
theorem lfRX10_9 : Cond.fieldLink RX10 9 (TX10 0).1 (TX10 0).2.1 (TX10 0).2.2.1 ∈ TW := (TWt 160 (by decide +kernel) (by decide +kernel))
theorem gCRX10_9 {k : Nat} {rf : Nat → Option (Option Nat)} {r : Nat} (C : FC X Y l0 cc nL RX10 rm mc ms ret) (hd : decode cc pc = .ok (.getfield 9, 3)) (hk : k < n) (hS : S k = .inr (.inl (9, 17, rf))) (hr : rf 0 = some (some r)) (kk : FJ X Y ad n S h (pc + 3) lv (.ref (ad r) :: st)) : FJ X Y ad n S h pc lv (.ref (ad k) :: st) := j_get (j := 0) C hd hk hS rfl inX10 (by decide) lfRX10_9 rfl (by unfold ph_f; rw [hr]; rfl) kk
theorem lfRX10_15 : Cond.fieldLink RX10 15 (TX10 1).1 (TX10 1).2.1 (TX10 1).2.2.1 ∈ TW := (TWt 163 (by decide +kernel) (by decide +kernel))
theorem gCRX10_15 {k : Nat} {rf : Nat → Option (Option Nat)} {r : Nat} (C : FC X Y l0 cc nL RX10 rm mc ms ret) (hd : decode cc pc = .ok (.getfield 15, 3)) (hk : k < n) (hS : S k = .inr (.inl (9, 17, rf))) (hr : rf 1 = some (some r)) (kk : FJ X Y ad n S h (pc + 3) lv (.ref (ad r) :: st)) : FJ X Y ad n S h pc lv (.ref (ad k) :: st) := j_get (j := 1) C hd hk hS rfl inX10 (by decide) lfRX10_15 rfl (by unfold ph_f; rw [hr]; rfl) kk
theorem lfRX10_18 : Cond.fieldLink RX10 18 (TX10 2).1 (TX10 2).2.1 (TX10 2).2.2.1 ∈ TW := (TWt 165 (by decide +kernel) (by decide +kernel))
theorem gCRX10_18 {k : Nat} {rf : Nat → Option (Option Nat)} {r : Nat} (C : FC X Y l0 cc nL RX10 rm mc ms ret) (hd : decode cc pc = .ok (.getfield 18, 3)) (hk : k < n) (hS : S k = .inr (.inl (9, 17, rf))) (hr : rf 2 = some (some r)) (kk : FJ X Y ad n S h (pc + 3) lv (.ref (ad r) :: st)) : FJ X Y ad n S h pc lv (.ref (ad k) :: st) := j_get (j := 2) C hd hk hS rfl inX10 (by decide) lfRX10_18 rfl (by unfold ph_f; rw [hr]; rfl) kk
theorem lfRX10_21 : Cond.fieldLink RX10 21 (TX10 3).1 (TX10 3).2.1 (TX10 3).2.2.1 ∈ TW := (TWt 167 (by decide +kernel) (by decide +kernel))
theorem gCRX10_21 {k : Nat} {rf : Nat → Option (Option Nat)} {r : Nat} (C : FC X Y l0 cc nL RX10 rm mc ms ret) (hd : decode cc pc = .ok (.getfield 21, 3)) (hk : k < n) (hS : S k = .inr (.inl (9, 17, rf))) (hr : rf 3 = some (some r)) (kk : FJ X Y ad n S h (pc + 3) lv (.ref (ad r) :: st)) : FJ X Y ad n S h pc lv (.ref (ad k) :: st) := j_get (j := 3) C hd hk hS rfl inX10 (by decide) lfRX10_21 rfl (by unfold ph_f; rw [hr]; rfl) kk
theorem lfRX10_24 : Cond.fieldLink RX10 24 (TX10 4).1 (TX10 4).2.1 (TX10 4).2.2.1 ∈ TW := (TWt 169 (by decide +kernel) (by decide +kernel))
theorem gCRX10_24 {k : Nat} {rf : Nat → Option (Option Nat)} {r : Nat} (C : FC X Y l0 cc nL RX10 rm mc ms ret) (hd : decode cc pc = .ok (.getfield 24, 3)) (hk : k < n) (hS : S k = .inr (.inl (9, 17, rf))) (hr : rf 4 = some (some r)) (kk : FJ X Y ad n S h (pc + 3) lv (.ref (ad r) :: st)) : FJ X Y ad n S h pc lv (.ref (ad k) :: st) := j_get (j := 4) C hd hk hS rfl inX10 (by decide) lfRX10_24 rfl (by unfold ph_f; rw [hr]; rfl) kk
theorem lfRX10_27 : Cond.fieldLink RX10 27 (TX10 5).1 (TX10 5).2.1 (TX10 5).2.2.1 ∈ TW := (TWt 172 (by decide +kernel) (by decide +kernel))
theorem gCRX10_27 {k : Nat} {rf : Nat → Option (Option Nat)} {r : Nat} (C : FC X Y l0 cc nL RX10 rm mc ms ret) (hd : decode cc pc = .ok (.getfield 27, 3)) (hk : k < n) (hS : S k = .inr (.inl (9, 17, rf))) (hr : rf 5 = some (some r)) (kk : FJ X Y ad n S h (pc + 3) lv (.ref (ad r) :: st)) : FJ X Y ad n S h pc lv (.ref (ad k) :: st) := j_get (j := 5) C hd hk hS rfl inX10 (by decide) lfRX10_27 rfl (by unfold ph_f; rw [hr]; rfl) kk
theorem lfRX10_30 : Cond.fieldLink RX10 30 (TX10 6).1 (TX10 6).2.1 (TX10 6).2.2.1 ∈ TW := (TWt 173 (by decide +kernel) (by decide +kernel))
theorem gCRX10_30 {k : Nat} {rf : Nat → Option (Option Nat)} {r : Nat} (C : FC X Y l0 cc nL RX10 rm mc ms ret) (hd : decode cc pc = .ok (.getfield 30, 3)) (hk : k < n) (hS : S k = .inr (.inl (9, 17, rf))) (hr : rf 6 = some (some r)) (kk : FJ X Y ad n S h (pc + 3) lv (.ref (ad r) :: st)) : FJ X Y ad n S h pc lv (.ref (ad k) :: st) := j_get (j := 6) C hd hk hS rfl inX10 (by decide) lfRX10_30 rfl (by unfold ph_f; rw [hr]; rfl) kk
theorem lfRX10_33 : Cond.fieldLink RX10 33 (TX10 7).1 (TX10 7).2.1 (TX10 7).2.2.1 ∈ TW := (TWt 174 (by decide +kernel) (by decide +kernel))
theorem gCRX10_33 {k : Nat} {rf : Nat → Option (Option Nat)} {r : Nat} (C : FC X Y l0 cc nL RX10 rm mc ms ret) (hd : decode cc pc = .ok (.getfield 33, 3)) (hk : k < n) (hS : S k = .inr (.inl (9, 17, rf))) (hr : rf 7 = some (some r)) (kk : FJ X Y ad n S h (pc + 3) lv (.ref (ad r) :: st)) : FJ X Y ad n S h pc lv (.ref (ad k) :: st) := j_get (j := 7) C hd hk hS rfl inX10 (by decide) lfRX10_33 rfl (by unfold ph_f; rw [hr]; rfl) kk
theorem lfRX10_36 : Cond.fieldLink RX10 36 (TX10 8).1 (TX10 8).2.1 (TX10 8).2.2.1 ∈ TW := (TWt 177 (by decide +kernel) (by decide +kernel))
theorem gCRX10_36 {k : Nat} {rf : Nat → Option (Option Nat)} {r : Nat} (C : FC X Y l0 cc nL RX10 rm mc ms ret) (hd : decode cc pc = .ok (.getfield 36, 3)) (hk : k < n) (hS : S k = .inr (.inl (9, 17, rf))) (hr : rf 8 = some (some r)) (kk : FJ X Y ad n S h (pc + 3) lv (.ref (ad r) :: st)) : FJ X Y ad n S h pc lv (.ref (ad k) :: st) := j_get (j := 8) C hd hk hS rfl inX10 (by decide) lfRX10_36 rfl (by unfold ph_f; rw [hr]; rfl) kk
theorem lfRX10_39 : Cond.fieldLink RX10 39 (TX10 9).1 (TX10 9).2.1 (TX10 9).2.2.1 ∈ TW := (TWt 179 (by decide +kernel) (by decide +kernel))
theorem gCRX10_39 {k : Nat} {rf : Nat → Option (Option Nat)} {r : Nat} (C : FC X Y l0 cc nL RX10 rm mc ms ret) (hd : decode cc pc = .ok (.getfield 39, 3)) (hk : k < n) (hS : S k = .inr (.inl (9, 17, rf))) (hr : rf 9 = some (some r)) (kk : FJ X Y ad n S h (pc + 3) lv (.ref (ad r) :: st)) : FJ X Y ad n S h pc lv (.ref (ad k) :: st) := j_get (j := 9) C hd hk hS rfl inX10 (by decide) lfRX10_39 rfl (by unfold ph_f; rw [hr]; rfl) kk
theorem lfRX10_42 : Cond.fieldLink RX10 42 (TX10 10).1 (TX10 10).2.1 (TX10 10).2.2.1 ∈ TW := (TWt 181 (by decide +kernel) (by decide +kernel))
theorem gCRX10_42 {k : Nat} {rf : Nat → Option (Option Nat)} {r : Nat} (C : FC X Y l0 cc nL RX10 rm mc ms ret) (hd : decode cc pc = .ok (.getfield 42, 3)) (hk : k < n) (hS : S k = .inr (.inl (9, 17, rf))) (hr : rf 10 = some (some r)) (kk : FJ X Y ad n S h (pc + 3) lv (.ref (ad r) :: st)) : FJ X Y ad n S h pc lv (.ref (ad k) :: st) := j_get (j := 10) C hd hk hS rfl inX10 (by decide) lfRX10_42 rfl (by unfold ph_f; rw [hr]; rfl) kk
theorem lfRX10_45 : Cond.fieldLink RX10 45 (TX10 11).1 (TX10 11).2.1 (TX10 11).2.2.1 ∈ TW := (TWt 183 (by decide +kernel) (by decide +kernel))
theorem gCRX10_45 {k : Nat} {rf : Nat → Option (Option Nat)} {v : Int32} (C : FC X Y l0 cc nL RX10 rm mc ms ret) (hd : decode cc pc = .ok (.getfield 45, 3)) (hk : k < n) (hS : S k = .inr (.inl (9, 17, rf))) (hr : rf 11 = none) (hv : h k 11 = v) (kk : FJ X Y ad n S h (pc + 3) lv (.int v :: st)) : FJ X Y ad n S h pc lv (.ref (ad k) :: st) := j_get (j := 11) C hd hk hS rfl inX10 (by decide) lfRX10_45 rfl (by unfold ph_f; rw [hr, hv]) kk
theorem pCRX10_45 {k : Nat} {rf : Nat → Option (Option Nat)} {v : Int32} (C : FC X Y l0 cc nL RX10 rm mc ms ret) (hd : decode cc pc = .ok (.putfield 45, 3)) (hk : k < n) (hS : S k = .inr (.inl (9, 17, rf))) (hr : rf 11 = none) (kk : FJ X Y ad n S (hs h k 11 v) (pc + 3) lv st) : FJ X Y ad n S h pc lv (.int v :: .ref (ad k) :: st) := j_put (ty := .int) (j := 11) C hd hk hS rfl inX10 tyX10_ok nmX10 (by decide) lfRX10_45 rfl rfl hr (by decide +kernel) rfl rfl kk
theorem lfRX10_49 : Cond.fieldLink RX10 49 (TX10 12).1 (TX10 12).2.1 (TX10 12).2.2.1 ∈ TW := (TWt 186 (by decide +kernel) (by decide +kernel))
theorem gCRX10_49 {k : Nat} {rf : Nat → Option (Option Nat)} {v : Int32} (C : FC X Y l0 cc nL RX10 rm mc ms ret) (hd : decode cc pc = .ok (.getfield 49, 3)) (hk : k < n) (hS : S k = .inr (.inl (9, 17, rf))) (hr : rf 12 = none) (hv : h k 12 = v) (kk : FJ X Y ad n S h (pc + 3) lv (.int v :: st)) : FJ X Y ad n S h pc lv (.ref (ad k) :: st) := j_get (j := 12) C hd hk hS rfl inX10 (by decide) lfRX10_49 rfl (by unfold ph_f; rw [hr, hv]) kk
theorem pCRX10_49 {k : Nat} {rf : Nat → Option (Option Nat)} {v : Int32} (C : FC X Y l0 cc nL RX10 rm mc ms ret) (hd : decode cc pc = .ok (.putfield 49, 3)) (hk : k < n) (hS : S k = .inr (.inl (9, 17, rf))) (hr : rf 12 = none) (kk : FJ X Y ad n S (hs h k 12 v) (pc + 3) lv st) : FJ X Y ad n S h pc lv (.int v :: .ref (ad k) :: st) := j_put (ty := .int) (j := 12) C hd hk hS rfl inX10 tyX10_ok nmX10 (by decide) lfRX10_49 rfl rfl hr (by decide +kernel) rfl rfl kk
theorem lfRX10_52 : Cond.fieldLink RX10 52 (TX10 14).1 (TX10 14).2.1 (TX10 14).2.2.1 ∈ TW := (TWt 190 (by decide +kernel) (by decide +kernel))
theorem gCRX10_52 {k : Nat} {rf : Nat → Option (Option Nat)} {v : Int32} (C : FC X Y l0 cc nL RX10 rm mc ms ret) (hd : decode cc pc = .ok (.getfield 52, 3)) (hk : k < n) (hS : S k = .inr (.inl (9, 17, rf))) (hr : rf 14 = none) (hv : h k 14 = v) (kk : FJ X Y ad n S h (pc + 3) lv (.int v :: st)) : FJ X Y ad n S h pc lv (.ref (ad k) :: st) := j_get (j := 14) C hd hk hS rfl inX10 (by decide) lfRX10_52 rfl (by unfold ph_f; rw [hr, hv]) kk
theorem pCRX10_52 {k : Nat} {rf : Nat → Option (Option Nat)} {v : Int32} (C : FC X Y l0 cc nL RX10 rm mc ms ret) (hd : decode cc pc = .ok (.putfield 52, 3)) (hk : k < n) (hS : S k = .inr (.inl (9, 17, rf))) (hr : rf 14 = none) (kk : FJ X Y ad n S (hs h k 14 v) (pc + 3) lv st) : FJ X Y ad n S h pc lv (.int v :: .ref (ad k) :: st) := j_put (ty := .int) (j := 14) C hd hk hS rfl inX10 tyX10_ok nmX10 (by decide) lfRX10_52 rfl rfl hr (by decide +kernel) rfl rfl kk
theorem lfRX10_55 : Cond.fieldLink RX10 55 (TX3 9).1 (TX3 9).2.1 (TX3 9).2.2.1 ∈ TW := (TWt 102 (by decide +kernel) (by decide +kernel))
theorem gCRX10_55 {k : Nat} {rf : Nat → Option (Option Nat)} {r : Nat} (C : FC X Y l0 cc nL RX10 rm mc ms ret) (hd : decode cc pc = .ok (.getfield 55, 3)) (hk : k < n) (hS : S k = .inr (.inl (2, 18, rf))) (hr : rf 9 = some (some r)) (kk : FJ X Y ad n S h (pc + 3) lv (.ref (ad r) :: st)) : FJ X Y ad n S h pc lv (.ref (ad k) :: st) := j_get (j := 9) C hd hk hS rfl inX3 (by decide) lfRX10_55 rfl (by unfold ph_f; rw [hr]; rfl) kk
theorem lfRX10_73 : Cond.fieldLink RX10 73 (TX10 13).1 (TX10 13).2.1 (TX10 13).2.2.1 ∈ TW := (TWt 188 (by decide +kernel) (by decide +kernel))
theorem gCRX10_73 {k : Nat} {rf : Nat → Option (Option Nat)} {v : Int32} (C : FC X Y l0 cc nL RX10 rm mc ms ret) (hd : decode cc pc = .ok (.getfield 73, 3)) (hk : k < n) (hS : S k = .inr (.inl (9, 17, rf))) (hr : rf 13 = none) (hv : h k 13 = v) (kk : FJ X Y ad n S h (pc + 3) lv (.int v :: st)) : FJ X Y ad n S h pc lv (.ref (ad k) :: st) := j_get (j := 13) C hd hk hS rfl inX10 (by decide) lfRX10_73 rfl (by unfold ph_f; rw [hr, hv]) kk
theorem pCRX10_73 {k : Nat} {rf : Nat → Option (Option Nat)} {v : Int32} (C : FC X Y l0 cc nL RX10 rm mc ms ret) (hd : decode cc pc = .ok (.putfield 73, 3)) (hk : k < n) (hS : S k = .inr (.inl (9, 17, rf))) (hr : rf 13 = none) (kk : FJ X Y ad n S (hs h k 13 v) (pc + 3) lv st) : FJ X Y ad n S h pc lv (.int v :: .ref (ad k) :: st) := j_put (ty := .int) (j := 13) C hd hk hS rfl inX10 tyX10_ok nmX10 (by decide) lfRX10_73 rfl rfl hr (by decide +kernel) rfl rfl kk
theorem lfRX10_76 : Cond.fieldLink RX10 76 (TX3 10).1 (TX3 10).2.1 (TX3 10).2.2.1 ∈ TW := (TWt 103 (by decide +kernel) (by decide +kernel))
theorem gCRX10_76 {k : Nat} {rf : Nat → Option (Option Nat)} {v : Int32} (C : FC X Y l0 cc nL RX10 rm mc ms ret) (hd : decode cc pc = .ok (.getfield 76, 3)) (hk : k < n) (hS : S k = .inr (.inl (2, 18, rf))) (hr : rf 10 = none) (hv : h k 10 = v) (kk : FJ X Y ad n S h (pc + 3) lv (.int v :: st)) : FJ X Y ad n S h pc lv (.ref (ad k) :: st) := j_get (j := 10) C hd hk hS rfl inX3 (by decide) lfRX10_76 rfl (by unfold ph_f; rw [hr, hv]) kk
theorem pCRX10_76 {k : Nat} {rf : Nat → Option (Option Nat)} {v : Int32} (C : FC X Y l0 cc nL RX10 rm mc ms ret) (hd : decode cc pc = .ok (.putfield 76, 3)) (hk : k < n) (hS : S k = .inr (.inl (2, 18, rf))) (hr : rf 10 = none) (kk : FJ X Y ad n S (hs h k 10 v) (pc + 3) lv st) : FJ X Y ad n S h pc lv (.int v :: .ref (ad k) :: st) := j_put (ty := .int) (j := 10) C hd hk hS rfl inX3 tyX3_ok nmX3 (by decide) lfRX10_76 rfl rfl hr (by decide +kernel) rfl rfl kk
theorem lfRX10_79 : Cond.fieldLink RX10 79 (TX10 15).1 (TX10 15).2.1 (TX10 15).2.2.1 ∈ TW := (TWt 192 (by decide +kernel) (by decide +kernel))
theorem gCRX10_79 {k : Nat} {rf : Nat → Option (Option Nat)} {v : Int32} (C : FC X Y l0 cc nL RX10 rm mc ms ret) (hd : decode cc pc = .ok (.getfield 79, 3)) (hk : k < n) (hS : S k = .inr (.inl (9, 17, rf))) (hr : rf 15 = none) (hv : h k 15 = v) (kk : FJ X Y ad n S h (pc + 3) lv (.int v :: st)) : FJ X Y ad n S h pc lv (.ref (ad k) :: st) := j_get (j := 15) C hd hk hS rfl inX10 (by decide) lfRX10_79 rfl (by unfold ph_f; rw [hr, hv]) kk
theorem pCRX10_79 {k : Nat} {rf : Nat → Option (Option Nat)} {v : Int32} (C : FC X Y l0 cc nL RX10 rm mc ms ret) (hd : decode cc pc = .ok (.putfield 79, 3)) (hk : k < n) (hS : S k = .inr (.inl (9, 17, rf))) (hr : rf 15 = none) (kk : FJ X Y ad n S (hs h k 15 v) (pc + 3) lv st) : FJ X Y ad n S h pc lv (.int v :: .ref (ad k) :: st) := j_put (ty := .int) (j := 15) C hd hk hS rfl inX10 tyX10_ok nmX10 (by decide) lfRX10_79 rfl rfl hr (by decide +kernel) rfl rfl kk
theorem lfRX10_82 : Cond.fieldLink RX10 82 (TX3 12).1 (TX3 12).2.1 (TX3 12).2.2.1 ∈ TW := (TWt 106 (by decide +kernel) (by decide +kernel))
theorem gCRX10_82 {k : Nat} {rf : Nat → Option (Option Nat)} {v : Int32} (C : FC X Y l0 cc nL RX10 rm mc ms ret) (hd : decode cc pc = .ok (.getfield 82, 3)) (hk : k < n) (hS : S k = .inr (.inl (2, 18, rf))) (hr : rf 12 = none) (hv : h k 12 = v) (kk : FJ X Y ad n S h (pc + 3) lv (.int v :: st)) : FJ X Y ad n S h pc lv (.ref (ad k) :: st) := j_get (j := 12) C hd hk hS rfl inX3 (by decide) lfRX10_82 rfl (by unfold ph_f; rw [hr, hv]) kk
theorem pCRX10_82 {k : Nat} {rf : Nat → Option (Option Nat)} {v : Int32} (C : FC X Y l0 cc nL RX10 rm mc ms ret) (hd : decode cc pc = .ok (.putfield 82, 3)) (hk : k < n) (hS : S k = .inr (.inl (2, 18, rf))) (hr : rf 12 = none) (kk : FJ X Y ad n S (hs h k 12 v) (pc + 3) lv st) : FJ X Y ad n S h pc lv (.int v :: .ref (ad k) :: st) := j_put (ty := .int) (j := 12) C hd hk hS rfl inX3 tyX3_ok nmX3 (by decide) lfRX10_82 rfl rfl hr (by decide +kernel) rfl rfl kk
theorem lfRX10_85 : Cond.fieldLink RX10 85 (TX10 16).1 (TX10 16).2.1 (TX10 16).2.2.1 ∈ TW := (TWt 194 (by decide +kernel) (by decide +kernel))
theorem gCRX10_85 {k : Nat} {rf : Nat → Option (Option Nat)} {v : Int32} (C : FC X Y l0 cc nL RX10 rm mc ms ret) (hd : decode cc pc = .ok (.getfield 85, 3)) (hk : k < n) (hS : S k = .inr (.inl (9, 17, rf))) (hr : rf 16 = none) (hv : h k 16 = v) (kk : FJ X Y ad n S h (pc + 3) lv (.int v :: st)) : FJ X Y ad n S h pc lv (.ref (ad k) :: st) := j_get (j := 16) C hd hk hS rfl inX10 (by decide) lfRX10_85 rfl (by unfold ph_f; rw [hr, hv]) kk
theorem pCRX10_85 {k : Nat} {rf : Nat → Option (Option Nat)} {v : Int32} (C : FC X Y l0 cc nL RX10 rm mc ms ret) (hd : decode cc pc = .ok (.putfield 85, 3)) (hk : k < n) (hS : S k = .inr (.inl (9, 17, rf))) (hr : rf 16 = none) (kk : FJ X Y ad n S (hs h k 16 v) (pc + 3) lv st) : FJ X Y ad n S h pc lv (.int v :: .ref (ad k) :: st) := j_put (ty := .int) (j := 16) C hd hk hS rfl inX10 tyX10_ok nmX10 (by decide) lfRX10_85 rfl rfl hr (by decide +kernel) rfl rfl kk
theorem lfRX10_86 : Cond.fieldLink RX10 86 (TX5 7).1 (TX5 7).2.1 (TX5 7).2.2.1 ∈ TW := (TWt 58 (by decide +kernel) (by decide +kernel))
theorem gCRX10_86 {k : Nat} {rf : Nat → Option (Option Nat)} {v : Int32} (C : FC X Y l0 cc nL RX10 rm mc ms ret) (hd : decode cc pc = .ok (.getfield 86, 3)) (hk : k < n) (hS : S k = .inr (.inl (4, 8, rf))) (hr : rf 7 = none) (hv : h k 7 = v) (kk : FJ X Y ad n S h (pc + 3) lv (.int v :: st)) : FJ X Y ad n S h pc lv (.ref (ad k) :: st) := j_get (j := 7) C hd hk hS rfl inX5 (by decide) lfRX10_86 rfl (by unfold ph_f; rw [hr, hv]) kk
theorem pCRX10_86 {k : Nat} {rf : Nat → Option (Option Nat)} {v : Int32} (C : FC X Y l0 cc nL RX10 rm mc ms ret) (hd : decode cc pc = .ok (.putfield 86, 3)) (hk : k < n) (hS : S k = .inr (.inl (4, 8, rf))) (hr : rf 7 = none) (kk : FJ X Y ad n S (hs h k 7 v) (pc + 3) lv st) : FJ X Y ad n S h pc lv (.int v :: .ref (ad k) :: st) := j_put (ty := .int) (j := 7) C hd hk hS rfl inX5 tyX5_ok nmX5 (by decide) lfRX10_86 rfl rfl hr (by decide +kernel) rfl rfl kk
theorem lfRX10_91 : Cond.fieldLink RX10 91 (TX5 4).1 (TX5 4).2.1 (TX5 4).2.2.1 ∈ TW := (TWt 49 (by decide +kernel) (by decide +kernel))
theorem gCRX10_91 {k : Nat} {rf : Nat → Option (Option Nat)} {r : Nat} (C : FC X Y l0 cc nL RX10 rm mc ms ret) (hd : decode cc pc = .ok (.getfield 91, 3)) (hk : k < n) (hS : S k = .inr (.inl (4, 8, rf))) (hr : rf 4 = some (some r)) (kk : FJ X Y ad n S h (pc + 3) lv (.ref (ad r) :: st)) : FJ X Y ad n S h pc lv (.ref (ad k) :: st) := j_get (j := 4) C hd hk hS rfl inX5 (by decide) lfRX10_91 rfl (by unfold ph_f; rw [hr]; rfl) kk
theorem lfRX10_94 : Cond.fieldLink RX10 94 (TX5 5).1 (TX5 5).2.1 (TX5 5).2.2.1 ∈ TW := (TWt 52 (by decide +kernel) (by decide +kernel))
theorem gCRX10_94 {k : Nat} {rf : Nat → Option (Option Nat)} {r : Nat} (C : FC X Y l0 cc nL RX10 rm mc ms ret) (hd : decode cc pc = .ok (.getfield 94, 3)) (hk : k < n) (hS : S k = .inr (.inl (4, 8, rf))) (hr : rf 5 = some (some r)) (kk : FJ X Y ad n S h (pc + 3) lv (.ref (ad r) :: st)) : FJ X Y ad n S h pc lv (.ref (ad k) :: st) := j_get (j := 5) C hd hk hS rfl inX5 (by decide) lfRX10_94 rfl (by unfold ph_f; rw [hr]; rfl) kk
theorem lfRX10_126 : Cond.fieldLink RX10 126 (TX3 15).1 (TX3 15).2.1 (TX3 15).2.2.1 ∈ TW := (TWt 111 (by decide +kernel) (by decide +kernel))
theorem gCRX10_126 {k : Nat} {rf : Nat → Option (Option Nat)} {v : Int32} (C : FC X Y l0 cc nL RX10 rm mc ms ret) (hd : decode cc pc = .ok (.getfield 126, 3)) (hk : k < n) (hS : S k = .inr (.inl (2, 18, rf))) (hr : rf 15 = none) (hv : h k 15 = v) (kk : FJ X Y ad n S h (pc + 3) lv (.int v :: st)) : FJ X Y ad n S h pc lv (.ref (ad k) :: st) := j_get (j := 15) C hd hk hS rfl inX3 (by decide) lfRX10_126 rfl (by unfold ph_f; rw [hr, hv]) kk
theorem pCRX10_126 {k : Nat} {rf : Nat → Option (Option Nat)} {v : Int32} (C : FC X Y l0 cc nL RX10 rm mc ms ret) (hd : decode cc pc = .ok (.putfield 126, 3)) (hk : k < n) (hS : S k = .inr (.inl (2, 18, rf))) (hr : rf 15 = none) (kk : FJ X Y ad n S (hs h k 15 v) (pc + 3) lv st) : FJ X Y ad n S h pc lv (.int v :: .ref (ad k) :: st) := j_put (ty := .int) (j := 15) C hd hk hS rfl inX3 tyX3_ok nmX3 (by decide) lfRX10_126 rfl rfl hr (by decide +kernel) rfl rfl kk
theorem lfRX10_129 : Cond.fieldLink RX10 129 (TX3 14).1 (TX3 14).2.1 (TX3 14).2.2.1 ∈ TW := (TWt 109 (by decide +kernel) (by decide +kernel))
theorem gCRX10_129 {k : Nat} {rf : Nat → Option (Option Nat)} {v : Int32} (C : FC X Y l0 cc nL RX10 rm mc ms ret) (hd : decode cc pc = .ok (.getfield 129, 3)) (hk : k < n) (hS : S k = .inr (.inl (2, 18, rf))) (hr : rf 14 = none) (hv : h k 14 = v) (kk : FJ X Y ad n S h (pc + 3) lv (.int v :: st)) : FJ X Y ad n S h pc lv (.ref (ad k) :: st) := j_get (j := 14) C hd hk hS rfl inX3 (by decide) lfRX10_129 rfl (by unfold ph_f; rw [hr, hv]) kk
theorem pCRX10_129 {k : Nat} {rf : Nat → Option (Option Nat)} {v : Int32} (C : FC X Y l0 cc nL RX10 rm mc ms ret) (hd : decode cc pc = .ok (.putfield 129, 3)) (hk : k < n) (hS : S k = .inr (.inl (2, 18, rf))) (hr : rf 14 = none) (kk : FJ X Y ad n S (hs h k 14 v) (pc + 3) lv st) : FJ X Y ad n S h pc lv (.int v :: .ref (ad k) :: st) := j_put (ty := .int) (j := 14) C hd hk hS rfl inX3 tyX3_ok nmX3 (by decide) lfRX10_129 rfl rfl hr (by decide +kernel) rfl rfl kk
theorem lfRX10_132 : Cond.fieldLink RX10 132 (TX3 0).1 (TX3 0).2.1 (TX3 0).2.2.1 ∈ TW := (TWt 85 (by decide +kernel) (by decide +kernel))
theorem gCRX10_132 {k : Nat} {rf : Nat → Option (Option Nat)} {r : Nat} (C : FC X Y l0 cc nL RX10 rm mc ms ret) (hd : decode cc pc = .ok (.getfield 132, 3)) (hk : k < n) (hS : S k = .inr (.inl (2, 18, rf))) (hr : rf 0 = some (some r)) (kk : FJ X Y ad n S h (pc + 3) lv (.ref (ad r) :: st)) : FJ X Y ad n S h pc lv (.ref (ad k) :: st) := j_get (j := 0) C hd hk hS rfl inX3 (by decide) lfRX10_132 rfl (by unfold ph_f; rw [hr]; rfl) kk
theorem lfRX10_135 : Cond.fieldLink RX10 135 (TX3 1).1 (TX3 1).2.1 (TX3 1).2.2.1 ∈ TW := (TWt 88 (by decide +kernel) (by decide +kernel))
theorem gCRX10_135 {k : Nat} {rf : Nat → Option (Option Nat)} {r : Nat} (C : FC X Y l0 cc nL RX10 rm mc ms ret) (hd : decode cc pc = .ok (.getfield 135, 3)) (hk : k < n) (hS : S k = .inr (.inl (2, 18, rf))) (hr : rf 1 = some (some r)) (kk : FJ X Y ad n S h (pc + 3) lv (.ref (ad r) :: st)) : FJ X Y ad n S h pc lv (.ref (ad k) :: st) := j_get (j := 1) C hd hk hS rfl inX3 (by decide) lfRX10_135 rfl (by unfold ph_f; rw [hr]; rfl) kk
theorem lfRX10_138 : Cond.fieldLink RX10 138 (TX3 16).1 (TX3 16).2.1 (TX3 16).2.2.1 ∈ TW := (TWt 113 (by decide +kernel) (by decide +kernel))
theorem gCRX10_138 {k : Nat} {rf : Nat → Option (Option Nat)} {v : Int32} (C : FC X Y l0 cc nL RX10 rm mc ms ret) (hd : decode cc pc = .ok (.getfield 138, 3)) (hk : k < n) (hS : S k = .inr (.inl (2, 18, rf))) (hr : rf 16 = none) (hv : h k 16 = v) (kk : FJ X Y ad n S h (pc + 3) lv (.int v :: st)) : FJ X Y ad n S h pc lv (.ref (ad k) :: st) := j_get (j := 16) C hd hk hS rfl inX3 (by decide) lfRX10_138 rfl (by unfold ph_f; rw [hr, hv]) kk
theorem pCRX10_138 {k : Nat} {rf : Nat → Option (Option Nat)} {v : Int32} (C : FC X Y l0 cc nL RX10 rm mc ms ret) (hd : decode cc pc = .ok (.putfield 138, 3)) (hk : k < n) (hS : S k = .inr (.inl (2, 18, rf))) (hr : rf 16 = none) (kk : FJ X Y ad n S (hs h k 16 v) (pc + 3) lv st) : FJ X Y ad n S h pc lv (.int v :: .ref (ad k) :: st) := j_put (ty := .int) (j := 16) C hd hk hS rfl inX3 tyX3_ok nmX3 (by decide) lfRX10_138 rfl rfl hr (by decide +kernel) rfl rfl kk
theorem lfRX10_141 : Cond.fieldLink RX10 141 (TX3 17).1 (TX3 17).2.1 (TX3 17).2.2.1 ∈ TW := (TWt 115 (by decide +kernel) (by decide +kernel))
theorem gCRX10_141 {k : Nat} {rf : Nat → Option (Option Nat)} {v : Int32} (C : FC X Y l0 cc nL RX10 rm mc ms ret) (hd : decode cc pc = .ok (.getfield 141, 3)) (hk : k < n) (hS : S k = .inr (.inl (2, 18, rf))) (hr : rf 17 = none) (hv : h k 17 = v) (kk : FJ X Y ad n S h (pc + 3) lv (.int v :: st)) : FJ X Y ad n S h pc lv (.ref (ad k) :: st) := j_get (j := 17) C hd hk hS rfl inX3 (by decide) lfRX10_141 rfl (by unfold ph_f; rw [hr, hv]) kk
theorem pCRX10_141 {k : Nat} {rf : Nat → Option (Option Nat)} {v : Int32} (C : FC X Y l0 cc nL RX10 rm mc ms ret) (hd : decode cc pc = .ok (.putfield 141, 3)) (hk : k < n) (hS : S k = .inr (.inl (2, 18, rf))) (hr : rf 17 = none) (kk : FJ X Y ad n S (hs h k 17 v) (pc + 3) lv st) : FJ X Y ad n S h pc lv (.int v :: .ref (ad k) :: st) := j_put (ty := .int) (j := 17) C hd hk hS rfl inX3 tyX3_ok nmX3 (by decide) lfRX10_141 rfl rfl hr (by decide +kernel) rfl rfl kk
theorem lfRX11_12 : Cond.fieldLink RX11 12 (TX11 0).1 (TX11 0).2.1 (TX11 0).2.2.1 ∈ TW := (TWt 310 (by decide +kernel) (by decide +kernel))
theorem gCRX11_12 {k : Nat} {rf : Nat → Option (Option Nat)} {r : Nat} (C : FC X Y l0 cc nL RX11 rm mc ms ret) (hd : decode cc pc = .ok (.getfield 12, 3)) (hk : k < n) (hS : S k = .inr (.inl (10, 13, rf))) (hr : rf 0 = some (some r)) (kk : FJ X Y ad n S h (pc + 3) lv (.ref (ad r) :: st)) : FJ X Y ad n S h pc lv (.ref (ad k) :: st) := j_get (j := 0) C hd hk hS rfl inX11 (by decide) lfRX11_12 rfl (by unfold ph_f; rw [hr]; rfl) kk
theorem lfRX11_16 : Cond.fieldLink RX11 16 (TX11 1).1 (TX11 1).2.1 (TX11 1).2.2.1 ∈ TW := (TWt 311 (by decide +kernel) (by decide +kernel))
theorem gCRX11_16 {k : Nat} {rf : Nat → Option (Option Nat)} {r : Nat} (C : FC X Y l0 cc nL RX11 rm mc ms ret) (hd : decode cc pc = .ok (.getfield 16, 3)) (hk : k < n) (hS : S k = .inr (.inl (10, 13, rf))) (hr : rf 1 = some (some r)) (kk : FJ X Y ad n S h (pc + 3) lv (.ref (ad r) :: st)) : FJ X Y ad n S h pc lv (.ref (ad k) :: st) := j_get (j := 1) C hd hk hS rfl inX11 (by decide) lfRX11_16 rfl (by unfold ph_f; rw [hr]; rfl) kk
theorem lfRX11_24 : Cond.fieldLink RX11 24 (TX11 2).1 (TX11 2).2.1 (TX11 2).2.2.1 ∈ TW := (TWt 312 (by decide +kernel) (by decide +kernel))
theorem gCRX11_24 {k : Nat} {rf : Nat → Option (Option Nat)} {r : Nat} (C : FC X Y l0 cc nL RX11 rm mc ms ret) (hd : decode cc pc = .ok (.getfield 24, 3)) (hk : k < n) (hS : S k = .inr (.inl (10, 13, rf))) (hr : rf 2 = some (some r)) (kk : FJ X Y ad n S h (pc + 3) lv (.ref (ad r) :: st)) : FJ X Y ad n S h pc lv (.ref (ad k) :: st) := j_get (j := 2) C hd hk hS rfl inX11 (by decide) lfRX11_24 rfl (by unfold ph_f; rw [hr]; rfl) kk
theorem lfRX11_28 : Cond.fieldLink RX11 28 (TX11 3).1 (TX11 3).2.1 (TX11 3).2.2.1 ∈ TW := (TWt 313 (by decide +kernel) (by decide +kernel))
theorem gCRX11_28 {k : Nat} {rf : Nat → Option (Option Nat)} {r : Nat} (C : FC X Y l0 cc nL RX11 rm mc ms ret) (hd : decode cc pc = .ok (.getfield 28, 3)) (hk : k < n) (hS : S k = .inr (.inl (10, 13, rf))) (hr : rf 3 = some (some r)) (kk : FJ X Y ad n S h (pc + 3) lv (.ref (ad r) :: st)) : FJ X Y ad n S h pc lv (.ref (ad k) :: st) := j_get (j := 3) C hd hk hS rfl inX11 (by decide) lfRX11_28 rfl (by unfold ph_f; rw [hr]; rfl) kk
theorem lfRX11_34 : Cond.fieldLink RX11 34 (TX11 4).1 (TX11 4).2.1 (TX11 4).2.2.1 ∈ TW := (TWt 314 (by decide +kernel) (by decide +kernel))
theorem gCRX11_34 {k : Nat} {rf : Nat → Option (Option Nat)} {r : Nat} (C : FC X Y l0 cc nL RX11 rm mc ms ret) (hd : decode cc pc = .ok (.getfield 34, 3)) (hk : k < n) (hS : S k = .inr (.inl (10, 13, rf))) (hr : rf 4 = some (some r)) (kk : FJ X Y ad n S h (pc + 3) lv (.ref (ad r) :: st)) : FJ X Y ad n S h pc lv (.ref (ad k) :: st) := j_get (j := 4) C hd hk hS rfl inX11 (by decide) lfRX11_34 rfl (by unfold ph_f; rw [hr]; rfl) kk
theorem lfRX11_43 : Cond.fieldLink RX11 43 (TX11 5).1 (TX11 5).2.1 (TX11 5).2.2.1 ∈ TW := (TWt 315 (by decide +kernel) (by decide +kernel))
theorem gCRX11_43 {k : Nat} {rf : Nat → Option (Option Nat)} {r : Nat} (C : FC X Y l0 cc nL RX11 rm mc ms ret) (hd : decode cc pc = .ok (.getfield 43, 3)) (hk : k < n) (hS : S k = .inr (.inl (10, 13, rf))) (hr : rf 5 = some (some r)) (kk : FJ X Y ad n S h (pc + 3) lv (.ref (ad r) :: st)) : FJ X Y ad n S h pc lv (.ref (ad k) :: st) := j_get (j := 5) C hd hk hS rfl inX11 (by decide) lfRX11_43 rfl (by unfold ph_f; rw [hr]; rfl) kk
theorem lfRX11_52 : Cond.fieldLink RX11 52 (TX11 6).1 (TX11 6).2.1 (TX11 6).2.2.1 ∈ TW := (TWt 316 (by decide +kernel) (by decide +kernel))
theorem gCRX11_52 {k : Nat} {rf : Nat → Option (Option Nat)} {r : Nat} (C : FC X Y l0 cc nL RX11 rm mc ms ret) (hd : decode cc pc = .ok (.getfield 52, 3)) (hk : k < n) (hS : S k = .inr (.inl (10, 13, rf))) (hr : rf 6 = some (some r)) (kk : FJ X Y ad n S h (pc + 3) lv (.ref (ad r) :: st)) : FJ X Y ad n S h pc lv (.ref (ad k) :: st) := j_get (j := 6) C hd hk hS rfl inX11 (by decide) lfRX11_52 rfl (by unfold ph_f; rw [hr]; rfl) kk
theorem lfRX11_58 : Cond.fieldLink RX11 58 (TX11 7).1 (TX11 7).2.1 (TX11 7).2.2.1 ∈ TW := (TWt 317 (by decide +kernel) (by decide +kernel))
theorem gCRX11_58 {k : Nat} {rf : Nat → Option (Option Nat)} {r : Nat} (C : FC X Y l0 cc nL RX11 rm mc ms ret) (hd : decode cc pc = .ok (.getfield 58, 3)) (hk : k < n) (hS : S k = .inr (.inl (10, 13, rf))) (hr : rf 7 = some (some r)) (kk : FJ X Y ad n S h (pc + 3) lv (.ref (ad r) :: st)) : FJ X Y ad n S h pc lv (.ref (ad k) :: st) := j_get (j := 7) C hd hk hS rfl inX11 (by decide) lfRX11_58 rfl (by unfold ph_f; rw [hr]; rfl) kk
theorem lfRX11_62 : Cond.fieldLink RX11 62 (TX11 12).1 (TX11 12).2.1 (TX11 12).2.2.1 ∈ TW := (TWt 322 (by decide +kernel) (by decide +kernel))
theorem gCRX11_62 {k : Nat} {rf : Nat → Option (Option Nat)} {v : Int32} (C : FC X Y l0 cc nL RX11 rm mc ms ret) (hd : decode cc pc = .ok (.getfield 62, 3)) (hk : k < n) (hS : S k = .inr (.inl (10, 13, rf))) (hr : rf 12 = none) (hv : h k 12 = v) (kk : FJ X Y ad n S h (pc + 3) lv (.int v :: st)) : FJ X Y ad n S h pc lv (.ref (ad k) :: st) := j_get (j := 12) C hd hk hS rfl inX11 (by decide) lfRX11_62 rfl (by unfold ph_f; rw [hr, hv]) kk
theorem pCRX11_62 {k : Nat} {rf : Nat → Option (Option Nat)} {v : Int32} (C : FC X Y l0 cc nL RX11 rm mc ms ret) (hd : decode cc pc = .ok (.putfield 62, 3)) (hk : k < n) (hS : S k = .inr (.inl (10, 13, rf))) (hr : rf 12 = none) (kk : FJ X Y ad n S (hs h k 12 v) (pc + 3) lv st) : FJ X Y ad n S h pc lv (.int v :: .ref (ad k) :: st) := j_put (ty := .int) (j := 12) C hd hk hS rfl inX11 tyX11_ok nmX11 (by decide) lfRX11_62 rfl rfl hr (by decide +kernel) rfl rfl kk
theorem lfRX11_70 : Cond.fieldLink RX11 70 (TX5 0).1 (TX5 0).2.1 (TX5 0).2.2.1 ∈ TW := (TWt 38 (by decide +kernel) (by decide +kernel))
theorem gCRX11_70 {k : Nat} {rf : Nat → Option (Option Nat)} {r : Nat} (C : FC X Y l0 cc nL RX11 rm mc ms ret) (hd : decode cc pc = .ok (.getfield 70, 3)) (hk : k < n) (hS : S k = .inr (.inl (4, 8, rf))) (hr : rf 0 = some (some r)) (kk : FJ X Y ad n S h (pc + 3) lv (.ref (ad r) :: st)) : FJ X Y ad n S h pc lv (.ref (ad k) :: st) := j_get (j := 0) C hd hk hS rfl inX5 (by decide) lfRX11_70 rfl (by unfold ph_f; rw [hr]; rfl) kk
theorem lfRX11_78 : Cond.fieldLink RX11 78 (TX5 1).1 (TX5 1).2.1 (TX5 1).2.2.1 ∈ TW := (TWt 40 (by decide +kernel) (by decide +kernel))
theorem gCRX11_78 {k : Nat} {rf : Nat → Option (Option Nat)} {r : Nat} (C : FC X Y l0 cc nL RX11 rm mc ms ret) (hd : decode cc pc = .ok (.getfield 78, 3)) (hk : k < n) (hS : S k = .inr (.inl (4, 8, rf))) (hr : rf 1 = some (some r)) (kk : FJ X Y ad n S h (pc + 3) lv (.ref (ad r) :: st)) : FJ X Y ad n S h pc lv (.ref (ad k) :: st) := j_get (j := 1) C hd hk hS rfl inX5 (by decide) lfRX11_78 rfl (by unfold ph_f; rw [hr]; rfl) kk
theorem lfRX11_84 : Cond.fieldLink RX11 84 (TX5 2).1 (TX5 2).2.1 (TX5 2).2.2.1 ∈ TW := (TWt 44 (by decide +kernel) (by decide +kernel))
theorem gCRX11_84 {k : Nat} {rf : Nat → Option (Option Nat)} {r : Nat} (C : FC X Y l0 cc nL RX11 rm mc ms ret) (hd : decode cc pc = .ok (.getfield 84, 3)) (hk : k < n) (hS : S k = .inr (.inl (4, 8, rf))) (hr : rf 2 = some (some r)) (kk : FJ X Y ad n S h (pc + 3) lv (.ref (ad r) :: st)) : FJ X Y ad n S h pc lv (.ref (ad k) :: st) := j_get (j := 2) C hd hk hS rfl inX5 (by decide) lfRX11_84 rfl (by unfold ph_f; rw [hr]; rfl) kk
theorem lfRX11_87 : Cond.fieldLink RX11 87 (TX5 6).1 (TX5 6).2.1 (TX5 6).2.2.1 ∈ TW := (TWt 55 (by decide +kernel) (by decide +kernel))
theorem gCRX11_87 {k : Nat} {rf : Nat → Option (Option Nat)} {v : Int32} (C : FC X Y l0 cc nL RX11 rm mc ms ret) (hd : decode cc pc = .ok (.getfield 87, 3)) (hk : k < n) (hS : S k = .inr (.inl (4, 8, rf))) (hr : rf 6 = none) (hv : h k 6 = v) (kk : FJ X Y ad n S h (pc + 3) lv (.int v :: st)) : FJ X Y ad n S h pc lv (.ref (ad k) :: st) := j_get (j := 6) C hd hk hS rfl inX5 (by decide) lfRX11_87 rfl (by unfold ph_f; rw [hr, hv]) kk
theorem pCRX11_87 {k : Nat} {rf : Nat → Option (Option Nat)} {v : Int32} (C : FC X Y l0 cc nL RX11 rm mc ms ret) (hd : decode cc pc = .ok (.putfield 87, 3)) (hk : k < n) (hS : S k = .inr (.inl (4, 8, rf))) (hr : rf 6 = none) (kk : FJ X Y ad n S (hs h k 6 v) (pc + 3) lv st) : FJ X Y ad n S h pc lv (.int v :: .ref (ad k) :: st) := j_put (ty := .int) (j := 6) C hd hk hS rfl inX5 tyX5_ok nmX5 (by decide) lfRX11_87 rfl rfl hr (by decide +kernel) rfl rfl kk
theorem lfRX11_90 : Cond.fieldLink RX11 90 (TX5 3).1 (TX5 3).2.1 (TX5 3).2.2.1 ∈ TW := (TWt 46 (by decide +kernel) (by decide +kernel))
theorem gCRX11_90 {k : Nat} {rf : Nat → Option (Option Nat)} {r : Nat} (C : FC X Y l0 cc nL RX11 rm mc ms ret) (hd : decode cc pc = .ok (.getfield 90, 3)) (hk : k < n) (hS : S k = .inr (.inl (4, 8, rf))) (hr : rf 3 = some (some r)) (kk : FJ X Y ad n S h (pc + 3) lv (.ref (ad r) :: st)) : FJ X Y ad n S h pc lv (.ref (ad k) :: st) := j_get (j := 3) C hd hk hS rfl inX5 (by decide) lfRX11_90 rfl (by unfold ph_f; rw [hr]; rfl) kk
theorem lfRX11_93 : Cond.fieldLink RX11 93 (TX5 7).1 (TX5 7).2.1 (TX5 7).2.2.1 ∈ TW := (TWt 59 (by decide +kernel) (by decide +kernel))
theorem gCRX11_93 {k : Nat} {rf : Nat → Option (Option Nat)} {v : Int32} (C : FC X Y l0 cc nL RX11 rm mc ms ret) (hd : decode cc pc = .ok (.getfield 93, 3)) (hk : k < n) (hS : S k = .inr (.inl (4, 8, rf))) (hr : rf 7 = none) (hv : h k 7 = v) (kk : FJ X Y ad n S h (pc + 3) lv (.int v :: st)) : FJ X Y ad n S h pc lv (.ref (ad k) :: st) := j_get (j := 7) C hd hk hS rfl inX5 (by decide) lfRX11_93 rfl (by unfold ph_f; rw [hr, hv]) kk
theorem pCRX11_93 {k : Nat} {rf : Nat → Option (Option Nat)} {v : Int32} (C : FC X Y l0 cc nL RX11 rm mc ms ret) (hd : decode cc pc = .ok (.putfield 93, 3)) (hk : k < n) (hS : S k = .inr (.inl (4, 8, rf))) (hr : rf 7 = none) (kk : FJ X Y ad n S (hs h k 7 v) (pc + 3) lv st) : FJ X Y ad n S h pc lv (.int v :: .ref (ad k) :: st) := j_put (ty := .int) (j := 7) C hd hk hS rfl inX5 tyX5_ok nmX5 (by decide) lfRX11_93 rfl rfl hr (by decide +kernel) rfl rfl kk
theorem lfRX11_96 : Cond.fieldLink RX11 96 (TX5 4).1 (TX5 4).2.1 (TX5 4).2.2.1 ∈ TW := (TWt 50 (by decide +kernel) (by decide +kernel))
theorem gCRX11_96 {k : Nat} {rf : Nat → Option (Option Nat)} {r : Nat} (C : FC X Y l0 cc nL RX11 rm mc ms ret) (hd : decode cc pc = .ok (.getfield 96, 3)) (hk : k < n) (hS : S k = .inr (.inl (4, 8, rf))) (hr : rf 4 = some (some r)) (kk : FJ X Y ad n S h (pc + 3) lv (.ref (ad r) :: st)) : FJ X Y ad n S h pc lv (.ref (ad k) :: st) := j_get (j := 4) C hd hk hS rfl inX5 (by decide) lfRX11_96 rfl (by unfold ph_f; rw [hr]; rfl) kk
theorem lfRX11_99 : Cond.fieldLink RX11 99 (TX5 5).1 (TX5 5).2.1 (TX5 5).2.2.1 ∈ TW := (TWt 53 (by decide +kernel) (by decide +kernel))
theorem gCRX11_99 {k : Nat} {rf : Nat → Option (Option Nat)} {r : Nat} (C : FC X Y l0 cc nL RX11 rm mc ms ret) (hd : decode cc pc = .ok (.getfield 99, 3)) (hk : k < n) (hS : S k = .inr (.inl (4, 8, rf))) (hr : rf 5 = some (some r)) (kk : FJ X Y ad n S h (pc + 3) lv (.ref (ad r) :: st)) : FJ X Y ad n S h pc lv (.ref (ad k) :: st) := j_get (j := 5) C hd hk hS rfl inX5 (by decide) lfRX11_99 rfl (by unfold ph_f; rw [hr]; rfl) kk
theorem lfRX11_116 : Cond.fieldLink RX11 116 (TX11 8).1 (TX11 8).2.1 (TX11 8).2.2.1 ∈ TW := (TWt 318 (by decide +kernel) (by decide +kernel))
theorem gCRX11_116 {k : Nat} {rf : Nat → Option (Option Nat)} {v : Int32} (C : FC X Y l0 cc nL RX11 rm mc ms ret) (hd : decode cc pc = .ok (.getfield 116, 3)) (hk : k < n) (hS : S k = .inr (.inl (10, 13, rf))) (hr : rf 8 = none) (hv : h k 8 = v) (kk : FJ X Y ad n S h (pc + 3) lv (.int v :: st)) : FJ X Y ad n S h pc lv (.ref (ad k) :: st) := j_get (j := 8) C hd hk hS rfl inX11 (by decide) lfRX11_116 rfl (by unfold ph_f; rw [hr, hv]) kk
theorem pCRX11_116 {k : Nat} {rf : Nat → Option (Option Nat)} {v : Int32} (C : FC X Y l0 cc nL RX11 rm mc ms ret) (hd : decode cc pc = .ok (.putfield 116, 3)) (hk : k < n) (hS : S k = .inr (.inl (10, 13, rf))) (hr : rf 8 = none) (hb : bo v) (kk : FJ X Y ad n S (hs h k 8 v) (pc + 3) lv st) : FJ X Y ad n S h pc lv (.int v :: .ref (ad k) :: st) := j_put (ty := .boolean) (j := 8) C hd hk hS rfl inX11 tyX11_ok nmX11 (by decide) lfRX11_116 rfl rfl hr (by decide +kernel) (bo_n hb) (bo_f hb) kk
theorem lfRX11_120 : Cond.fieldLink RX11 120 (TX10 11).1 (TX10 11).2.1 (TX10 11).2.2.1 ∈ TW := (TWt 185 (by decide +kernel) (by decide +kernel))
theorem gCRX11_120 {k : Nat} {rf : Nat → Option (Option Nat)} {v : Int32} (C : FC X Y l0 cc nL RX11 rm mc ms ret) (hd : decode cc pc = .ok (.getfield 120, 3)) (hk : k < n) (hS : S k = .inr (.inl (9, 17, rf))) (hr : rf 11 = none) (hv : h k 11 = v) (kk : FJ X Y ad n S h (pc + 3) lv (.int v :: st)) : FJ X Y ad n S h pc lv (.ref (ad k) :: st) := j_get (j := 11) C hd hk hS rfl inX10 (by decide) lfRX11_120 rfl (by unfold ph_f; rw [hr, hv]) kk
theorem pCRX11_120 {k : Nat} {rf : Nat → Option (Option Nat)} {v : Int32} (C : FC X Y l0 cc nL RX11 rm mc ms ret) (hd : decode cc pc = .ok (.putfield 120, 3)) (hk : k < n) (hS : S k = .inr (.inl (9, 17, rf))) (hr : rf 11 = none) (kk : FJ X Y ad n S (hs h k 11 v) (pc + 3) lv st) : FJ X Y ad n S h pc lv (.int v :: .ref (ad k) :: st) := j_put (ty := .int) (j := 11) C hd hk hS rfl inX10 tyX10_ok nmX10 (by decide) lfRX11_120 rfl rfl hr (by decide +kernel) rfl rfl kk
theorem lfRX11_123 : Cond.fieldLink RX11 123 (TX11 9).1 (TX11 9).2.1 (TX11 9).2.2.1 ∈ TW := (TWt 319 (by decide +kernel) (by decide +kernel))
theorem gCRX11_123 {k : Nat} {rf : Nat → Option (Option Nat)} {v : Int32} (C : FC X Y l0 cc nL RX11 rm mc ms ret) (hd : decode cc pc = .ok (.getfield 123, 3)) (hk : k < n) (hS : S k = .inr (.inl (10, 13, rf))) (hr : rf 9 = none) (hv : h k 9 = v) (kk : FJ X Y ad n S h (pc + 3) lv (.int v :: st)) : FJ X Y ad n S h pc lv (.ref (ad k) :: st) := j_get (j := 9) C hd hk hS rfl inX11 (by decide) lfRX11_123 rfl (by unfold ph_f; rw [hr, hv]) kk
theorem pCRX11_123 {k : Nat} {rf : Nat → Option (Option Nat)} {v : Int32} (C : FC X Y l0 cc nL RX11 rm mc ms ret) (hd : decode cc pc = .ok (.putfield 123, 3)) (hk : k < n) (hS : S k = .inr (.inl (10, 13, rf))) (hr : rf 9 = none) (kk : FJ X Y ad n S (hs h k 9 v) (pc + 3) lv st) : FJ X Y ad n S h pc lv (.int v :: .ref (ad k) :: st) := j_put (ty := .int) (j := 9) C hd hk hS rfl inX11 tyX11_ok nmX11 (by decide) lfRX11_123 rfl rfl hr (by decide +kernel) rfl rfl kk
theorem lfRX11_126 : Cond.fieldLink RX11 126 (TX11 10).1 (TX11 10).2.1 (TX11 10).2.2.1 ∈ TW := (TWt 320 (by decide +kernel) (by decide +kernel))
theorem gCRX11_126 {k : Nat} {rf : Nat → Option (Option Nat)} {v : Int32} (C : FC X Y l0 cc nL RX11 rm mc ms ret) (hd : decode cc pc = .ok (.getfield 126, 3)) (hk : k < n) (hS : S k = .inr (.inl (10, 13, rf))) (hr : rf 10 = none) (hv : h k 10 = v) (kk : FJ X Y ad n S h (pc + 3) lv (.int v :: st)) : FJ X Y ad n S h pc lv (.ref (ad k) :: st) := j_get (j := 10) C hd hk hS rfl inX11 (by decide) lfRX11_126 rfl (by unfold ph_f; rw [hr, hv]) kk
theorem pCRX11_126 {k : Nat} {rf : Nat → Option (Option Nat)} {v : Int32} (C : FC X Y l0 cc nL RX11 rm mc ms ret) (hd : decode cc pc = .ok (.putfield 126, 3)) (hk : k < n) (hS : S k = .inr (.inl (10, 13, rf))) (hr : rf 10 = none) (kk : FJ X Y ad n S (hs h k 10 v) (pc + 3) lv st) : FJ X Y ad n S h pc lv (.int v :: .ref (ad k) :: st) := j_put (ty := .int) (j := 10) C hd hk hS rfl inX11 tyX11_ok nmX11 (by decide) lfRX11_126 rfl rfl hr (by decide +kernel) rfl rfl kk
theorem lfRX11_129 : Cond.fieldLink RX11 129 (TX10 13).1 (TX10 13).2.1 (TX10 13).2.2.1 ∈ TW := (TWt 189 (by decide +kernel) (by decide +kernel))
theorem gCRX11_129 {k : Nat} {rf : Nat → Option (Option Nat)} {v : Int32} (C : FC X Y l0 cc nL RX11 rm mc ms ret) (hd : decode cc pc = .ok (.getfield 129, 3)) (hk : k < n) (hS : S k = .inr (.inl (9, 17, rf))) (hr : rf 13 = none) (hv : h k 13 = v) (kk : FJ X Y ad n S h (pc + 3) lv (.int v :: st)) : FJ X Y ad n S h pc lv (.ref (ad k) :: st) := j_get (j := 13) C hd hk hS rfl inX10 (by decide) lfRX11_129 rfl (by unfold ph_f; rw [hr, hv]) kk
theorem pCRX11_129 {k : Nat} {rf : Nat → Option (Option Nat)} {v : Int32} (C : FC X Y l0 cc nL RX11 rm mc ms ret) (hd : decode cc pc = .ok (.putfield 129, 3)) (hk : k < n) (hS : S k = .inr (.inl (9, 17, rf))) (hr : rf 13 = none) (kk : FJ X Y ad n S (hs h k 13 v) (pc + 3) lv st) : FJ X Y ad n S h pc lv (.int v :: .ref (ad k) :: st) := j_put (ty := .int) (j := 13) C hd hk hS rfl inX10 tyX10_ok nmX10 (by decide) lfRX11_129 rfl rfl hr (by decide +kernel) rfl rfl kk
theorem lfRX11_132 : Cond.fieldLink RX11 132 (TX10 14).1 (TX10 14).2.1 (TX10 14).2.2.1 ∈ TW := (TWt 191 (by decide +kernel) (by decide +kernel))
theorem gCRX11_132 {k : Nat} {rf : Nat → Option (Option Nat)} {v : Int32} (C : FC X Y l0 cc nL RX11 rm mc ms ret) (hd : decode cc pc = .ok (.getfield 132, 3)) (hk : k < n) (hS : S k = .inr (.inl (9, 17, rf))) (hr : rf 14 = none) (hv : h k 14 = v) (kk : FJ X Y ad n S h (pc + 3) lv (.int v :: st)) : FJ X Y ad n S h pc lv (.ref (ad k) :: st) := j_get (j := 14) C hd hk hS rfl inX10 (by decide) lfRX11_132 rfl (by unfold ph_f; rw [hr, hv]) kk
theorem pCRX11_132 {k : Nat} {rf : Nat → Option (Option Nat)} {v : Int32} (C : FC X Y l0 cc nL RX11 rm mc ms ret) (hd : decode cc pc = .ok (.putfield 132, 3)) (hk : k < n) (hS : S k = .inr (.inl (9, 17, rf))) (hr : rf 14 = none) (kk : FJ X Y ad n S (hs h k 14 v) (pc + 3) lv st) : FJ X Y ad n S h pc lv (.int v :: .ref (ad k) :: st) := j_put (ty := .int) (j := 14) C hd hk hS rfl inX10 tyX10_ok nmX10 (by decide) lfRX11_132 rfl rfl hr (by decide +kernel) rfl rfl kk
theorem lfRX11_139 : Cond.fieldLink RX11 139 (TX10 15).1 (TX10 15).2.1 (TX10 15).2.2.1 ∈ TW := (TWt 193 (by decide +kernel) (by decide +kernel))
theorem gCRX11_139 {k : Nat} {rf : Nat → Option (Option Nat)} {v : Int32} (C : FC X Y l0 cc nL RX11 rm mc ms ret) (hd : decode cc pc = .ok (.getfield 139, 3)) (hk : k < n) (hS : S k = .inr (.inl (9, 17, rf))) (hr : rf 15 = none) (hv : h k 15 = v) (kk : FJ X Y ad n S h (pc + 3) lv (.int v :: st)) : FJ X Y ad n S h pc lv (.ref (ad k) :: st) := j_get (j := 15) C hd hk hS rfl inX10 (by decide) lfRX11_139 rfl (by unfold ph_f; rw [hr, hv]) kk
theorem pCRX11_139 {k : Nat} {rf : Nat → Option (Option Nat)} {v : Int32} (C : FC X Y l0 cc nL RX11 rm mc ms ret) (hd : decode cc pc = .ok (.putfield 139, 3)) (hk : k < n) (hS : S k = .inr (.inl (9, 17, rf))) (hr : rf 15 = none) (kk : FJ X Y ad n S (hs h k 15 v) (pc + 3) lv st) : FJ X Y ad n S h pc lv (.int v :: .ref (ad k) :: st) := j_put (ty := .int) (j := 15) C hd hk hS rfl inX10 tyX10_ok nmX10 (by decide) lfRX11_139 rfl rfl hr (by decide +kernel) rfl rfl kk
theorem lfRX11_142 : Cond.fieldLink RX11 142 (TX10 12).1 (TX10 12).2.1 (TX10 12).2.2.1 ∈ TW := (TWt 187 (by decide +kernel) (by decide +kernel))
theorem gCRX11_142 {k : Nat} {rf : Nat → Option (Option Nat)} {v : Int32} (C : FC X Y l0 cc nL RX11 rm mc ms ret) (hd : decode cc pc = .ok (.getfield 142, 3)) (hk : k < n) (hS : S k = .inr (.inl (9, 17, rf))) (hr : rf 12 = none) (hv : h k 12 = v) (kk : FJ X Y ad n S h (pc + 3) lv (.int v :: st)) : FJ X Y ad n S h pc lv (.ref (ad k) :: st) := j_get (j := 12) C hd hk hS rfl inX10 (by decide) lfRX11_142 rfl (by unfold ph_f; rw [hr, hv]) kk
theorem pCRX11_142 {k : Nat} {rf : Nat → Option (Option Nat)} {v : Int32} (C : FC X Y l0 cc nL RX11 rm mc ms ret) (hd : decode cc pc = .ok (.putfield 142, 3)) (hk : k < n) (hS : S k = .inr (.inl (9, 17, rf))) (hr : rf 12 = none) (kk : FJ X Y ad n S (hs h k 12 v) (pc + 3) lv st) : FJ X Y ad n S h pc lv (.int v :: .ref (ad k) :: st) := j_put (ty := .int) (j := 12) C hd hk hS rfl inX10 tyX10_ok nmX10 (by decide) lfRX11_142 rfl rfl hr (by decide +kernel) rfl rfl kk
theorem lfRX11_145 : Cond.fieldLink RX11 145 (TX10 16).1 (TX10 16).2.1 (TX10 16).2.2.1 ∈ TW := (TWt 195 (by decide +kernel) (by decide +kernel))
theorem gCRX11_145 {k : Nat} {rf : Nat → Option (Option Nat)} {v : Int32} (C : FC X Y l0 cc nL RX11 rm mc ms ret) (hd : decode cc pc = .ok (.getfield 145, 3)) (hk : k < n) (hS : S k = .inr (.inl (9, 17, rf))) (hr : rf 16 = none) (hv : h k 16 = v) (kk : FJ X Y ad n S h (pc + 3) lv (.int v :: st)) : FJ X Y ad n S h pc lv (.ref (ad k) :: st) := j_get (j := 16) C hd hk hS rfl inX10 (by decide) lfRX11_145 rfl (by unfold ph_f; rw [hr, hv]) kk
theorem pCRX11_145 {k : Nat} {rf : Nat → Option (Option Nat)} {v : Int32} (C : FC X Y l0 cc nL RX11 rm mc ms ret) (hd : decode cc pc = .ok (.putfield 145, 3)) (hk : k < n) (hS : S k = .inr (.inl (9, 17, rf))) (hr : rf 16 = none) (kk : FJ X Y ad n S (hs h k 16 v) (pc + 3) lv st) : FJ X Y ad n S h pc lv (.int v :: .ref (ad k) :: st) := j_put (ty := .int) (j := 16) C hd hk hS rfl inX10 tyX10_ok nmX10 (by decide) lfRX11_145 rfl rfl hr (by decide +kernel) rfl rfl kk
theorem lfRX11_148 : Cond.fieldLink RX11 148 (TX10 9).1 (TX10 9).2.1 (TX10 9).2.2.1 ∈ TW := (TWt 180 (by decide +kernel) (by decide +kernel))
theorem gCRX11_148 {k : Nat} {rf : Nat → Option (Option Nat)} {r : Nat} (C : FC X Y l0 cc nL RX11 rm mc ms ret) (hd : decode cc pc = .ok (.getfield 148, 3)) (hk : k < n) (hS : S k = .inr (.inl (9, 17, rf))) (hr : rf 9 = some (some r)) (kk : FJ X Y ad n S h (pc + 3) lv (.ref (ad r) :: st)) : FJ X Y ad n S h pc lv (.ref (ad k) :: st) := j_get (j := 9) C hd hk hS rfl inX10 (by decide) lfRX11_148 rfl (by unfold ph_f; rw [hr]; rfl) kk
theorem lfRX11_151 : Cond.fieldLink RX11 151 (TX10 10).1 (TX10 10).2.1 (TX10 10).2.2.1 ∈ TW := (TWt 182 (by decide +kernel) (by decide +kernel))
theorem gCRX11_151 {k : Nat} {rf : Nat → Option (Option Nat)} {r : Nat} (C : FC X Y l0 cc nL RX11 rm mc ms ret) (hd : decode cc pc = .ok (.getfield 151, 3)) (hk : k < n) (hS : S k = .inr (.inl (9, 17, rf))) (hr : rf 10 = some (some r)) (kk : FJ X Y ad n S h (pc + 3) lv (.ref (ad r) :: st)) : FJ X Y ad n S h pc lv (.ref (ad k) :: st) := j_get (j := 10) C hd hk hS rfl inX10 (by decide) lfRX11_151 rfl (by unfold ph_f; rw [hr]; rfl) kk
theorem lfRX11_154 : Cond.fieldLink RX11 154 (TX10 0).1 (TX10 0).2.1 (TX10 0).2.2.1 ∈ TW := (TWt 162 (by decide +kernel) (by decide +kernel))
theorem gCRX11_154 {k : Nat} {rf : Nat → Option (Option Nat)} {r : Nat} (C : FC X Y l0 cc nL RX11 rm mc ms ret) (hd : decode cc pc = .ok (.getfield 154, 3)) (hk : k < n) (hS : S k = .inr (.inl (9, 17, rf))) (hr : rf 0 = some (some r)) (kk : FJ X Y ad n S h (pc + 3) lv (.ref (ad r) :: st)) : FJ X Y ad n S h pc lv (.ref (ad k) :: st) := j_get (j := 0) C hd hk hS rfl inX10 (by decide) lfRX11_154 rfl (by unfold ph_f; rw [hr]; rfl) kk
theorem lfRX11_157 : Cond.fieldLink RX11 157 (TX10 1).1 (TX10 1).2.1 (TX10 1).2.2.1 ∈ TW := (TWt 164 (by decide +kernel) (by decide +kernel))
theorem gCRX11_157 {k : Nat} {rf : Nat → Option (Option Nat)} {r : Nat} (C : FC X Y l0 cc nL RX11 rm mc ms ret) (hd : decode cc pc = .ok (.getfield 157, 3)) (hk : k < n) (hS : S k = .inr (.inl (9, 17, rf))) (hr : rf 1 = some (some r)) (kk : FJ X Y ad n S h (pc + 3) lv (.ref (ad r) :: st)) : FJ X Y ad n S h pc lv (.ref (ad k) :: st) := j_get (j := 1) C hd hk hS rfl inX10 (by decide) lfRX11_157 rfl (by unfold ph_f; rw [hr]; rfl) kk
theorem lfRX11_160 : Cond.fieldLink RX11 160 (TX10 2).1 (TX10 2).2.1 (TX10 2).2.2.1 ∈ TW := (TWt 166 (by decide +kernel) (by decide +kernel))
theorem gCRX11_160 {k : Nat} {rf : Nat → Option (Option Nat)} {r : Nat} (C : FC X Y l0 cc nL RX11 rm mc ms ret) (hd : decode cc pc = .ok (.getfield 160, 3)) (hk : k < n) (hS : S k = .inr (.inl (9, 17, rf))) (hr : rf 2 = some (some r)) (kk : FJ X Y ad n S h (pc + 3) lv (.ref (ad r) :: st)) : FJ X Y ad n S h pc lv (.ref (ad k) :: st) := j_get (j := 2) C hd hk hS rfl inX10 (by decide) lfRX11_160 rfl (by unfold ph_f; rw [hr]; rfl) kk
theorem lfRX11_163 : Cond.fieldLink RX11 163 (TX10 3).1 (TX10 3).2.1 (TX10 3).2.2.1 ∈ TW := (TWt 168 (by decide +kernel) (by decide +kernel))
theorem gCRX11_163 {k : Nat} {rf : Nat → Option (Option Nat)} {r : Nat} (C : FC X Y l0 cc nL RX11 rm mc ms ret) (hd : decode cc pc = .ok (.getfield 163, 3)) (hk : k < n) (hS : S k = .inr (.inl (9, 17, rf))) (hr : rf 3 = some (some r)) (kk : FJ X Y ad n S h (pc + 3) lv (.ref (ad r) :: st)) : FJ X Y ad n S h pc lv (.ref (ad k) :: st) := j_get (j := 3) C hd hk hS rfl inX10 (by decide) lfRX11_163 rfl (by unfold ph_f; rw [hr]; rfl) kk
theorem lfRX11_166 : Cond.fieldLink RX11 166 (TX10 4).1 (TX10 4).2.1 (TX10 4).2.2.1 ∈ TW := (TWt 171 (by decide +kernel) (by decide +kernel))
theorem gCRX11_166 {k : Nat} {rf : Nat → Option (Option Nat)} {r : Nat} (C : FC X Y l0 cc nL RX11 rm mc ms ret) (hd : decode cc pc = .ok (.getfield 166, 3)) (hk : k < n) (hS : S k = .inr (.inl (9, 17, rf))) (hr : rf 4 = some (some r)) (kk : FJ X Y ad n S h (pc + 3) lv (.ref (ad r) :: st)) : FJ X Y ad n S h pc lv (.ref (ad k) :: st) := j_get (j := 4) C hd hk hS rfl inX10 (by decide) lfRX11_166 rfl (by unfold ph_f; rw [hr]; rfl) kk
theorem lfRX11_169 : Cond.fieldLink RX11 169 (TX10 7).1 (TX10 7).2.1 (TX10 7).2.2.1 ∈ TW := (TWt 176 (by decide +kernel) (by decide +kernel))
theorem gCRX11_169 {k : Nat} {rf : Nat → Option (Option Nat)} {r : Nat} (C : FC X Y l0 cc nL RX11 rm mc ms ret) (hd : decode cc pc = .ok (.getfield 169, 3)) (hk : k < n) (hS : S k = .inr (.inl (9, 17, rf))) (hr : rf 7 = some (some r)) (kk : FJ X Y ad n S h (pc + 3) lv (.ref (ad r) :: st)) : FJ X Y ad n S h pc lv (.ref (ad k) :: st) := j_get (j := 7) C hd hk hS rfl inX10 (by decide) lfRX11_169 rfl (by unfold ph_f; rw [hr]; rfl) kk
theorem lfRX11_176 : Cond.fieldLink RX11 176 (TX11 11).1 (TX11 11).2.1 (TX11 11).2.2.1 ∈ TW := (TWt 321 (by decide +kernel) (by decide +kernel))
theorem gCRX11_176 {k : Nat} {rf : Nat → Option (Option Nat)} {v : Int32} (C : FC X Y l0 cc nL RX11 rm mc ms ret) (hd : decode cc pc = .ok (.getfield 176, 3)) (hk : k < n) (hS : S k = .inr (.inl (10, 13, rf))) (hr : rf 11 = none) (hv : h k 11 = v) (kk : FJ X Y ad n S h (pc + 3) lv (.int v :: st)) : FJ X Y ad n S h pc lv (.ref (ad k) :: st) := j_get (j := 11) C hd hk hS rfl inX11 (by decide) lfRX11_176 rfl (by unfold ph_f; rw [hr, hv]) kk
theorem pCRX11_176 {k : Nat} {rf : Nat → Option (Option Nat)} {v : Int32} (C : FC X Y l0 cc nL RX11 rm mc ms ret) (hd : decode cc pc = .ok (.putfield 176, 3)) (hk : k < n) (hS : S k = .inr (.inl (10, 13, rf))) (hr : rf 11 = none) (kk : FJ X Y ad n S (hs h k 11 v) (pc + 3) lv st) : FJ X Y ad n S h pc lv (.int v :: .ref (ad k) :: st) := j_put (ty := .int) (j := 11) C hd hk hS rfl inX11 tyX11_ok nmX11 (by decide) lfRX11_176 rfl rfl hr (by decide +kernel) rfl rfl kk
theorem lfRX11_204 : Cond.fieldLink RX11 204 (TX3 0).1 (TX3 0).2.1 (TX3 0).2.2.1 ∈ TW := (TWt 86 (by decide +kernel) (by decide +kernel))
theorem gCRX11_204 {k : Nat} {rf : Nat → Option (Option Nat)} {r : Nat} (C : FC X Y l0 cc nL RX11 rm mc ms ret) (hd : decode cc pc = .ok (.getfield 204, 3)) (hk : k < n) (hS : S k = .inr (.inl (2, 18, rf))) (hr : rf 0 = some (some r)) (kk : FJ X Y ad n S h (pc + 3) lv (.ref (ad r) :: st)) : FJ X Y ad n S h pc lv (.ref (ad k) :: st) := j_get (j := 0) C hd hk hS rfl inX3 (by decide) lfRX11_204 rfl (by unfold ph_f; rw [hr]; rfl) kk
theorem lfRX11_207 : Cond.fieldLink RX11 207 (TX3 1).1 (TX3 1).2.1 (TX3 1).2.2.1 ∈ TW := (TWt 89 (by decide +kernel) (by decide +kernel))
theorem gCRX11_207 {k : Nat} {rf : Nat → Option (Option Nat)} {r : Nat} (C : FC X Y l0 cc nL RX11 rm mc ms ret) (hd : decode cc pc = .ok (.getfield 207, 3)) (hk : k < n) (hS : S k = .inr (.inl (2, 18, rf))) (hr : rf 1 = some (some r)) (kk : FJ X Y ad n S h (pc + 3) lv (.ref (ad r) :: st)) : FJ X Y ad n S h pc lv (.ref (ad k) :: st) := j_get (j := 1) C hd hk hS rfl inX3 (by decide) lfRX11_207 rfl (by unfold ph_f; rw [hr]; rfl) kk
theorem lfRX11_213 : Cond.fieldLink RX11 213 (TX3 5).1 (TX3 5).2.1 (TX3 5).2.2.1 ∈ TW := (TWt 94 (by decide +kernel) (by decide +kernel))
theorem gCRX11_213 {k : Nat} {rf : Nat → Option (Option Nat)} {r : Nat} (C : FC X Y l0 cc nL RX11 rm mc ms ret) (hd : decode cc pc = .ok (.getfield 213, 3)) (hk : k < n) (hS : S k = .inr (.inl (2, 18, rf))) (hr : rf 5 = some (some r)) (kk : FJ X Y ad n S h (pc + 3) lv (.ref (ad r) :: st)) : FJ X Y ad n S h pc lv (.ref (ad k) :: st) := j_get (j := 5) C hd hk hS rfl inX3 (by decide) lfRX11_213 rfl (by unfold ph_f; rw [hr]; rfl) kk
theorem lfRX11_216 : Cond.fieldLink RX11 216 (TX3 6).1 (TX3 6).2.1 (TX3 6).2.2.1 ∈ TW := (TWt 96 (by decide +kernel) (by decide +kernel))
theorem gCRX11_216 {k : Nat} {rf : Nat → Option (Option Nat)} {r : Nat} (C : FC X Y l0 cc nL RX11 rm mc ms ret) (hd : decode cc pc = .ok (.getfield 216, 3)) (hk : k < n) (hS : S k = .inr (.inl (2, 18, rf))) (hr : rf 6 = some (some r)) (kk : FJ X Y ad n S h (pc + 3) lv (.ref (ad r) :: st)) : FJ X Y ad n S h pc lv (.ref (ad k) :: st) := j_get (j := 6) C hd hk hS rfl inX3 (by decide) lfRX11_216 rfl (by unfold ph_f; rw [hr]; rfl) kk
theorem lfRX11_219 : Cond.fieldLink RX11 219 (TX3 7).1 (TX3 7).2.1 (TX3 7).2.2.1 ∈ TW := (TWt 98 (by decide +kernel) (by decide +kernel))
theorem gCRX11_219 {k : Nat} {rf : Nat → Option (Option Nat)} {r : Nat} (C : FC X Y l0 cc nL RX11 rm mc ms ret) (hd : decode cc pc = .ok (.getfield 219, 3)) (hk : k < n) (hS : S k = .inr (.inl (2, 18, rf))) (hr : rf 7 = some (some r)) (kk : FJ X Y ad n S h (pc + 3) lv (.ref (ad r) :: st)) : FJ X Y ad n S h pc lv (.ref (ad k) :: st) := j_get (j := 7) C hd hk hS rfl inX3 (by decide) lfRX11_219 rfl (by unfold ph_f; rw [hr]; rfl) kk
theorem lfRX11_228 : Cond.fieldLink RX11 228 (TX3 8).1 (TX3 8).2.1 (TX3 8).2.2.1 ∈ TW := (TWt 100 (by decide +kernel) (by decide +kernel))
theorem gCRX11_228 {k : Nat} {rf : Nat → Option (Option Nat)} {r : Nat} (C : FC X Y l0 cc nL RX11 rm mc ms ret) (hd : decode cc pc = .ok (.getfield 228, 3)) (hk : k < n) (hS : S k = .inr (.inl (2, 18, rf))) (hr : rf 8 = some (some r)) (kk : FJ X Y ad n S h (pc + 3) lv (.ref (ad r) :: st)) : FJ X Y ad n S h pc lv (.ref (ad k) :: st) := j_get (j := 8) C hd hk hS rfl inX3 (by decide) lfRX11_228 rfl (by unfold ph_f; rw [hr]; rfl) kk
theorem lfRX11_257 : Cond.fieldLink RX11 257 (TX4 5).1 (TX4 5).2.1 (TX4 5).2.2.1 ∈ TW := (TWt 243 (by decide +kernel) (by decide +kernel))
theorem gCRX11_257 {k : Nat} {rf : Nat → Option (Option Nat)} {v : Int32} (C : FC X Y l0 cc nL RX11 rm mc ms ret) (hd : decode cc pc = .ok (.getfield 257, 3)) (hk : k < n) (hS : S k = .inr (.inl (3, 7, rf))) (hr : rf 5 = none) (hv : h k 5 = v) (kk : FJ X Y ad n S h (pc + 3) lv (.int v :: st)) : FJ X Y ad n S h pc lv (.ref (ad k) :: st) := j_get (j := 5) C hd hk hS rfl inX4 (by decide) lfRX11_257 rfl (by unfold ph_f; rw [hr, hv]) kk
theorem pCRX11_257 {k : Nat} {rf : Nat → Option (Option Nat)} {v : Int32} (C : FC X Y l0 cc nL RX11 rm mc ms ret) (hd : decode cc pc = .ok (.putfield 257, 3)) (hk : k < n) (hS : S k = .inr (.inl (3, 7, rf))) (hr : rf 5 = none) (kk : FJ X Y ad n S (hs h k 5 v) (pc + 3) lv st) : FJ X Y ad n S h pc lv (.int v :: .ref (ad k) :: st) := j_put (ty := .int) (j := 5) C hd hk hS rfl inX4 tyX4_ok nmX4 (by decide) lfRX11_257 rfl rfl hr (by decide +kernel) rfl rfl kk
theorem lfRX11_280 : Cond.fieldLink RX11 280 (TX6 9).1 (TX6 9).2.1 (TX6 9).2.2.1 ∈ TW := (TWt 282 (by decide +kernel) (by decide +kernel))
theorem gCRX11_280 {k : Nat} {rf : Nat → Option (Option Nat)} {v : Int32} (C : FC X Y l0 cc nL RX11 rm mc ms ret) (hd : decode cc pc = .ok (.getfield 280, 3)) (hk : k < n) (hS : S k = .inr (.inl (5, 11, rf))) (hr : rf 9 = none) (hv : h k 9 = v) (kk : FJ X Y ad n S h (pc + 3) lv (.int v :: st)) : FJ X Y ad n S h pc lv (.ref (ad k) :: st) := j_get (j := 9) C hd hk hS rfl inX6 (by decide) lfRX11_280 rfl (by unfold ph_f; rw [hr, hv]) kk
theorem pCRX11_280 {k : Nat} {rf : Nat → Option (Option Nat)} {v : Int32} (C : FC X Y l0 cc nL RX11 rm mc ms ret) (hd : decode cc pc = .ok (.putfield 280, 3)) (hk : k < n) (hS : S k = .inr (.inl (5, 11, rf))) (hr : rf 9 = none) (kk : FJ X Y ad n S (hs h k 9 v) (pc + 3) lv st) : FJ X Y ad n S h pc lv (.int v :: .ref (ad k) :: st) := j_put (ty := .int) (j := 9) C hd hk hS rfl inX6 tyX6_ok nmX6 (by decide) lfRX11_280 rfl rfl hr (by decide +kernel) rfl rfl kk
theorem lfRX11_283 : Cond.fieldLink RX11 283 (TX6 10).1 (TX6 10).2.1 (TX6 10).2.2.1 ∈ TW := (TWt 284 (by decide +kernel) (by decide +kernel))
theorem gCRX11_283 {k : Nat} {rf : Nat → Option (Option Nat)} {v : Int32} (C : FC X Y l0 cc nL RX11 rm mc ms ret) (hd : decode cc pc = .ok (.getfield 283, 3)) (hk : k < n) (hS : S k = .inr (.inl (5, 11, rf))) (hr : rf 10 = none) (hv : h k 10 = v) (kk : FJ X Y ad n S h (pc + 3) lv (.int v :: st)) : FJ X Y ad n S h pc lv (.ref (ad k) :: st) := j_get (j := 10) C hd hk hS rfl inX6 (by decide) lfRX11_283 rfl (by unfold ph_f; rw [hr, hv]) kk
theorem pCRX11_283 {k : Nat} {rf : Nat → Option (Option Nat)} {v : Int32} (C : FC X Y l0 cc nL RX11 rm mc ms ret) (hd : decode cc pc = .ok (.putfield 283, 3)) (hk : k < n) (hS : S k = .inr (.inl (5, 11, rf))) (hr : rf 10 = none) (hb : bo v) (kk : FJ X Y ad n S (hs h k 10 v) (pc + 3) lv st) : FJ X Y ad n S h pc lv (.int v :: .ref (ad k) :: st) := j_put (ty := .boolean) (j := 10) C hd hk hS rfl inX6 tyX6_ok nmX6 (by decide) lfRX11_283 rfl rfl hr (by decide +kernel) (bo_n hb) (bo_f hb) kk
theorem lfRX11_286 : Cond.fieldLink RX11 286 (TX6 6).1 (TX6 6).2.1 (TX6 6).2.2.1 ∈ TW := (TWt 277 (by decide +kernel) (by decide +kernel))
theorem gCRX11_286 {k : Nat} {rf : Nat → Option (Option Nat)} {v : Int32} (C : FC X Y l0 cc nL RX11 rm mc ms ret) (hd : decode cc pc = .ok (.getfield 286, 3)) (hk : k < n) (hS : S k = .inr (.inl (5, 11, rf))) (hr : rf 6 = none) (hv : h k 6 = v) (kk : FJ X Y ad n S h (pc + 3) lv (.int v :: st)) : FJ X Y ad n S h pc lv (.ref (ad k) :: st) := j_get (j := 6) C hd hk hS rfl inX6 (by decide) lfRX11_286 rfl (by unfold ph_f; rw [hr, hv]) kk
theorem pCRX11_286 {k : Nat} {rf : Nat → Option (Option Nat)} {v : Int32} (C : FC X Y l0 cc nL RX11 rm mc ms ret) (hd : decode cc pc = .ok (.putfield 286, 3)) (hk : k < n) (hS : S k = .inr (.inl (5, 11, rf))) (hr : rf 6 = none) (kk : FJ X Y ad n S (hs h k 6 v) (pc + 3) lv st) : FJ X Y ad n S h pc lv (.int v :: .ref (ad k) :: st) := j_put (ty := .int) (j := 6) C hd hk hS rfl inX6 tyX6_ok nmX6 (by decide) lfRX11_286 rfl rfl hr (by decide +kernel) rfl rfl kk
theorem lfRX11_287 : Cond.fieldLink RX11 287 (TX6 8).1 (TX6 8).2.1 (TX6 8).2.2.1 ∈ TW := (TWt 280 (by decide +kernel) (by decide +kernel))
theorem gCRX11_287 {k : Nat} {rf : Nat → Option (Option Nat)} {v : Int32} (C : FC X Y l0 cc nL RX11 rm mc ms ret) (hd : decode cc pc = .ok (.getfield 287, 3)) (hk : k < n) (hS : S k = .inr (.inl (5, 11, rf))) (hr : rf 8 = none) (hv : h k 8 = v) (kk : FJ X Y ad n S h (pc + 3) lv (.int v :: st)) : FJ X Y ad n S h pc lv (.ref (ad k) :: st) := j_get (j := 8) C hd hk hS rfl inX6 (by decide) lfRX11_287 rfl (by unfold ph_f; rw [hr, hv]) kk
theorem pCRX11_287 {k : Nat} {rf : Nat → Option (Option Nat)} {v : Int32} (C : FC X Y l0 cc nL RX11 rm mc ms ret) (hd : decode cc pc = .ok (.putfield 287, 3)) (hk : k < n) (hS : S k = .inr (.inl (5, 11, rf))) (hr : rf 8 = none) (kk : FJ X Y ad n S (hs h k 8 v) (pc + 3) lv st) : FJ X Y ad n S h pc lv (.int v :: .ref (ad k) :: st) := j_put (ty := .int) (j := 8) C hd hk hS rfl inX6 tyX6_ok nmX6 (by decide) lfRX11_287 rfl rfl hr (by decide +kernel) rfl rfl kk
theorem lfRX11_288 : Cond.fieldLink RX11 288 (TX6 4).1 (TX6 4).2.1 (TX6 4).2.2.1 ∈ TW := (TWt 273 (by decide +kernel) (by decide +kernel))
theorem gCRX11_288 {k : Nat} {rf : Nat → Option (Option Nat)} {r : Nat} (C : FC X Y l0 cc nL RX11 rm mc ms ret) (hd : decode cc pc = .ok (.getfield 288, 3)) (hk : k < n) (hS : S k = .inr (.inl (5, 11, rf))) (hr : rf 4 = some (some r)) (kk : FJ X Y ad n S h (pc + 3) lv (.ref (ad r) :: st)) : FJ X Y ad n S h pc lv (.ref (ad k) :: st) := j_get (j := 4) C hd hk hS rfl inX6 (by decide) lfRX11_288 rfl (by unfold ph_f; rw [hr]; rfl) kk
theorem lfRX11_289 : Cond.fieldLink RX11 289 (TX6 5).1 (TX6 5).2.1 (TX6 5).2.2.1 ∈ TW := (TWt 275 (by decide +kernel) (by decide +kernel))
theorem gCRX11_289 {k : Nat} {rf : Nat → Option (Option Nat)} {r : Nat} (C : FC X Y l0 cc nL RX11 rm mc ms ret) (hd : decode cc pc = .ok (.getfield 289, 3)) (hk : k < n) (hS : S k = .inr (.inl (5, 11, rf))) (hr : rf 5 = some (some r)) (kk : FJ X Y ad n S h (pc + 3) lv (.ref (ad r) :: st)) : FJ X Y ad n S h pc lv (.ref (ad k) :: st) := j_get (j := 5) C hd hk hS rfl inX6 (by decide) lfRX11_289 rfl (by unfold ph_f; rw [hr]; rfl) kk
theorem lfRX3_9 : Cond.fieldLink RX3 9 (TX3 0).1 (TX3 0).2.1 (TX3 0).2.2.1 ∈ TW := (TWt 84 (by decide +kernel) (by decide +kernel))
theorem gCRX3_9 {k : Nat} {rf : Nat → Option (Option Nat)} {r : Nat} (C : FC X Y l0 cc nL RX3 rm mc ms ret) (hd : decode cc pc = .ok (.getfield 9, 3)) (hk : k < n) (hS : S k = .inr (.inl (2, 18, rf))) (hr : rf 0 = some (some r)) (kk : FJ X Y ad n S h (pc + 3) lv (.ref (ad r) :: st)) : FJ X Y ad n S h pc lv (.ref (ad k) :: st) := j_get (j := 0) C hd hk hS rfl inX3 (by decide) lfRX3_9 rfl (by unfold ph_f; rw [hr]; rfl) kk
theorem lfRX3_15 : Cond.fieldLink RX3 15 (TX3 1).1 (TX3 1).2.1 (TX3 1).2.2.1 ∈ TW := (TWt 87 (by decide +kernel) (by decide +kernel))
theorem gCRX3_15 {k : Nat} {rf : Nat → Option (Option Nat)} {r : Nat} (C : FC X Y l0 cc nL RX3 rm mc ms ret) (hd : decode cc pc = .ok (.getfield 15, 3)) (hk : k < n) (hS : S k = .inr (.inl (2, 18, rf))) (hr : rf 1 = some (some r)) (kk : FJ X Y ad n S h (pc + 3) lv (.ref (ad r) :: st)) : FJ X Y ad n S h pc lv (.ref (ad k) :: st) := j_get (j := 1) C hd hk hS rfl inX3 (by decide) lfRX3_15 rfl (by unfold ph_f; rw [hr]; rfl) kk
theorem lfRX3_18 : Cond.fieldLink RX3 18 (TX3 2).1 (TX3 2).2.1 (TX3 2).2.2.1 ∈ TW := (TWt 90 (by decide +kernel) (by decide +kernel))
theorem gCRX3_18 {k : Nat} {rf : Nat → Option (Option Nat)} {r : Nat} (C : FC X Y l0 cc nL RX3 rm mc ms ret) (hd : decode cc pc = .ok (.getfield 18, 3)) (hk : k < n) (hS : S k = .inr (.inl (2, 18, rf))) (hr : rf 2 = some (some r)) (kk : FJ X Y ad n S h (pc + 3) lv (.ref (ad r) :: st)) : FJ X Y ad n S h pc lv (.ref (ad k) :: st) := j_get (j := 2) C hd hk hS rfl inX3 (by decide) lfRX3_18 rfl (by unfold ph_f; rw [hr]; rfl) kk
theorem lfRX3_21 : Cond.fieldLink RX3 21 (TX3 3).1 (TX3 3).2.1 (TX3 3).2.2.1 ∈ TW := (TWt 91 (by decide +kernel) (by decide +kernel))
theorem gCRX3_21 {k : Nat} {rf : Nat → Option (Option Nat)} {r : Nat} (C : FC X Y l0 cc nL RX3 rm mc ms ret) (hd : decode cc pc = .ok (.getfield 21, 3)) (hk : k < n) (hS : S k = .inr (.inl (2, 18, rf))) (hr : rf 3 = some (some r)) (kk : FJ X Y ad n S h (pc + 3) lv (.ref (ad r) :: st)) : FJ X Y ad n S h pc lv (.ref (ad k) :: st) := j_get (j := 3) C hd hk hS rfl inX3 (by decide) lfRX3_21 rfl (by unfold ph_f; rw [hr]; rfl) kk
theorem lfRX3_24 : Cond.fieldLink RX3 24 (TX3 4).1 (TX3 4).2.1 (TX3 4).2.2.1 ∈ TW := (TWt 92 (by decide +kernel) (by decide +kernel))
theorem gCRX3_24 {k : Nat} {rf : Nat → Option (Option Nat)} {r : Nat} (C : FC X Y l0 cc nL RX3 rm mc ms ret) (hd : decode cc pc = .ok (.getfield 24, 3)) (hk : k < n) (hS : S k = .inr (.inl (2, 18, rf))) (hr : rf 4 = some (some r)) (kk : FJ X Y ad n S h (pc + 3) lv (.ref (ad r) :: st)) : FJ X Y ad n S h pc lv (.ref (ad k) :: st) := j_get (j := 4) C hd hk hS rfl inX3 (by decide) lfRX3_24 rfl (by unfold ph_f; rw [hr]; rfl) kk
theorem lfRX3_27 : Cond.fieldLink RX3 27 (TX3 5).1 (TX3 5).2.1 (TX3 5).2.2.1 ∈ TW := (TWt 93 (by decide +kernel) (by decide +kernel))
theorem gCRX3_27 {k : Nat} {rf : Nat → Option (Option Nat)} {r : Nat} (C : FC X Y l0 cc nL RX3 rm mc ms ret) (hd : decode cc pc = .ok (.getfield 27, 3)) (hk : k < n) (hS : S k = .inr (.inl (2, 18, rf))) (hr : rf 5 = some (some r)) (kk : FJ X Y ad n S h (pc + 3) lv (.ref (ad r) :: st)) : FJ X Y ad n S h pc lv (.ref (ad k) :: st) := j_get (j := 5) C hd hk hS rfl inX3 (by decide) lfRX3_27 rfl (by unfold ph_f; rw [hr]; rfl) kk
theorem lfRX3_30 : Cond.fieldLink RX3 30 (TX3 6).1 (TX3 6).2.1 (TX3 6).2.2.1 ∈ TW := (TWt 95 (by decide +kernel) (by decide +kernel))
theorem gCRX3_30 {k : Nat} {rf : Nat → Option (Option Nat)} {r : Nat} (C : FC X Y l0 cc nL RX3 rm mc ms ret) (hd : decode cc pc = .ok (.getfield 30, 3)) (hk : k < n) (hS : S k = .inr (.inl (2, 18, rf))) (hr : rf 6 = some (some r)) (kk : FJ X Y ad n S h (pc + 3) lv (.ref (ad r) :: st)) : FJ X Y ad n S h pc lv (.ref (ad k) :: st) := j_get (j := 6) C hd hk hS rfl inX3 (by decide) lfRX3_30 rfl (by unfold ph_f; rw [hr]; rfl) kk
theorem lfRX3_33 : Cond.fieldLink RX3 33 (TX3 7).1 (TX3 7).2.1 (TX3 7).2.2.1 ∈ TW := (TWt 97 (by decide +kernel) (by decide +kernel))
theorem gCRX3_33 {k : Nat} {rf : Nat → Option (Option Nat)} {r : Nat} (C : FC X Y l0 cc nL RX3 rm mc ms ret) (hd : decode cc pc = .ok (.getfield 33, 3)) (hk : k < n) (hS : S k = .inr (.inl (2, 18, rf))) (hr : rf 7 = some (some r)) (kk : FJ X Y ad n S h (pc + 3) lv (.ref (ad r) :: st)) : FJ X Y ad n S h pc lv (.ref (ad k) :: st) := j_get (j := 7) C hd hk hS rfl inX3 (by decide) lfRX3_33 rfl (by unfold ph_f; rw [hr]; rfl) kk
theorem lfRX3_36 : Cond.fieldLink RX3 36 (TX3 8).1 (TX3 8).2.1 (TX3 8).2.2.1 ∈ TW := (TWt 99 (by decide +kernel) (by decide +kernel))
theorem gCRX3_36 {k : Nat} {rf : Nat → Option (Option Nat)} {r : Nat} (C : FC X Y l0 cc nL RX3 rm mc ms ret) (hd : decode cc pc = .ok (.getfield 36, 3)) (hk : k < n) (hS : S k = .inr (.inl (2, 18, rf))) (hr : rf 8 = some (some r)) (kk : FJ X Y ad n S h (pc + 3) lv (.ref (ad r) :: st)) : FJ X Y ad n S h pc lv (.ref (ad k) :: st) := j_get (j := 8) C hd hk hS rfl inX3 (by decide) lfRX3_36 rfl (by unfold ph_f; rw [hr]; rfl) kk
theorem lfRX3_39 : Cond.fieldLink RX3 39 (TX3 9).1 (TX3 9).2.1 (TX3 9).2.2.1 ∈ TW := (TWt 101 (by decide +kernel) (by decide +kernel))
theorem gCRX3_39 {k : Nat} {rf : Nat → Option (Option Nat)} {r : Nat} (C : FC X Y l0 cc nL RX3 rm mc ms ret) (hd : decode cc pc = .ok (.getfield 39, 3)) (hk : k < n) (hS : S k = .inr (.inl (2, 18, rf))) (hr : rf 9 = some (some r)) (kk : FJ X Y ad n S h (pc + 3) lv (.ref (ad r) :: st)) : FJ X Y ad n S h pc lv (.ref (ad k) :: st) := j_get (j := 9) C hd hk hS rfl inX3 (by decide) lfRX3_39 rfl (by unfold ph_f; rw [hr]; rfl) kk
theorem lfRX3_49 : Cond.fieldLink RX3 49 (TX5 2).1 (TX5 2).2.1 (TX5 2).2.2.1 ∈ TW := (TWt 43 (by decide +kernel) (by decide +kernel))
theorem gCRX3_49 {k : Nat} {rf : Nat → Option (Option Nat)} {r : Nat} (C : FC X Y l0 cc nL RX3 rm mc ms ret) (hd : decode cc pc = .ok (.getfield 49, 3)) (hk : k < n) (hS : S k = .inr (.inl (4, 8, rf))) (hr : rf 2 = some (some r)) (kk : FJ X Y ad n S h (pc + 3) lv (.ref (ad r) :: st)) : FJ X Y ad n S h pc lv (.ref (ad k) :: st) := j_get (j := 2) C hd hk hS rfl inX5 (by decide) lfRX3_49 rfl (by unfold ph_f; rw [hr]; rfl) kk
theorem lfRX3_60 : Cond.fieldLink RX3 60 (TX3 10).1 (TX3 10).2.1 (TX3 10).2.2.1 ∈ TW := (TWt 104 (by decide +kernel) (by decide +kernel))
theorem gCRX3_60 {k : Nat} {rf : Nat → Option (Option Nat)} {v : Int32} (C : FC X Y l0 cc nL RX3 rm mc ms ret) (hd : decode cc pc = .ok (.getfield 60, 3)) (hk : k < n) (hS : S k = .inr (.inl (2, 18, rf))) (hr : rf 10 = none) (hv : h k 10 = v) (kk : FJ X Y ad n S h (pc + 3) lv (.int v :: st)) : FJ X Y ad n S h pc lv (.ref (ad k) :: st) := j_get (j := 10) C hd hk hS rfl inX3 (by decide) lfRX3_60 rfl (by unfold ph_f; rw [hr, hv]) kk
theorem pCRX3_60 {k : Nat} {rf : Nat → Option (Option Nat)} {v : Int32} (C : FC X Y l0 cc nL RX3 rm mc ms ret) (hd : decode cc pc = .ok (.putfield 60, 3)) (hk : k < n) (hS : S k = .inr (.inl (2, 18, rf))) (hr : rf 10 = none) (kk : FJ X Y ad n S (hs h k 10 v) (pc + 3) lv st) : FJ X Y ad n S h pc lv (.int v :: .ref (ad k) :: st) := j_put (ty := .int) (j := 10) C hd hk hS rfl inX3 tyX3_ok nmX3 (by decide) lfRX3_60 rfl rfl hr (by decide +kernel) rfl rfl kk
theorem lfRX3_64 : Cond.fieldLink RX3 64 (TX3 11).1 (TX3 11).2.1 (TX3 11).2.2.1 ∈ TW := (TWt 105 (by decide +kernel) (by decide +kernel))
theorem gCRX3_64 {k : Nat} {rf : Nat → Option (Option Nat)} {v : Int32} (C : FC X Y l0 cc nL RX3 rm mc ms ret) (hd : decode cc pc = .ok (.getfield 64, 3)) (hk : k < n) (hS : S k = .inr (.inl (2, 18, rf))) (hr : rf 11 = none) (hv : h k 11 = v) (kk : FJ X Y ad n S h (pc + 3) lv (.int v :: st)) : FJ X Y ad n S h pc lv (.ref (ad k) :: st) := j_get (j := 11) C hd hk hS rfl inX3 (by decide) lfRX3_64 rfl (by unfold ph_f; rw [hr, hv]) kk
theorem pCRX3_64 {k : Nat} {rf : Nat → Option (Option Nat)} {v : Int32} (C : FC X Y l0 cc nL RX3 rm mc ms ret) (hd : decode cc pc = .ok (.putfield 64, 3)) (hk : k < n) (hS : S k = .inr (.inl (2, 18, rf))) (hr : rf 11 = none) (kk : FJ X Y ad n S (hs h k 11 v) (pc + 3) lv st) : FJ X Y ad n S h pc lv (.int v :: .ref (ad k) :: st) := j_put (ty := .int) (j := 11) C hd hk hS rfl inX3 tyX3_ok nmX3 (by decide) lfRX3_64 rfl rfl hr (by decide +kernel) rfl rfl kk
theorem lfRX3_67 : Cond.fieldLink RX3 67 (TX3 12).1 (TX3 12).2.1 (TX3 12).2.2.1 ∈ TW := (TWt 107 (by decide +kernel) (by decide +kernel))
theorem gCRX3_67 {k : Nat} {rf : Nat → Option (Option Nat)} {v : Int32} (C : FC X Y l0 cc nL RX3 rm mc ms ret) (hd : decode cc pc = .ok (.getfield 67, 3)) (hk : k < n) (hS : S k = .inr (.inl (2, 18, rf))) (hr : rf 12 = none) (hv : h k 12 = v) (kk : FJ X Y ad n S h (pc + 3) lv (.int v :: st)) : FJ X Y ad n S h pc lv (.ref (ad k) :: st) := j_get (j := 12) C hd hk hS rfl inX3 (by decide) lfRX3_67 rfl (by unfold ph_f; rw [hr, hv]) kk
theorem pCRX3_67 {k : Nat} {rf : Nat → Option (Option Nat)} {v : Int32} (C : FC X Y l0 cc nL RX3 rm mc ms ret) (hd : decode cc pc = .ok (.putfield 67, 3)) (hk : k < n) (hS : S k = .inr (.inl (2, 18, rf))) (hr : rf 12 = none) (kk : FJ X Y ad n S (hs h k 12 v) (pc + 3) lv st) : FJ X Y ad n S h pc lv (.int v :: .ref (ad k) :: st) := j_put (ty := .int) (j := 12) C hd hk hS rfl inX3 tyX3_ok nmX3 (by decide) lfRX3_67 rfl rfl hr (by decide +kernel) rfl rfl kk
theorem lfRX3_82 : Cond.fieldLink RX3 82 (TX5 1).1 (TX5 1).2.1 (TX5 1).2.2.1 ∈ TW := (TWt 41 (by decide +kernel) (by decide +kernel))
theorem gCRX3_82 {k : Nat} {rf : Nat → Option (Option Nat)} {r : Nat} (C : FC X Y l0 cc nL RX3 rm mc ms ret) (hd : decode cc pc = .ok (.getfield 82, 3)) (hk : k < n) (hS : S k = .inr (.inl (4, 8, rf))) (hr : rf 1 = some (some r)) (kk : FJ X Y ad n S h (pc + 3) lv (.ref (ad r) :: st)) : FJ X Y ad n S h pc lv (.ref (ad k) :: st) := j_get (j := 1) C hd hk hS rfl inX5 (by decide) lfRX3_82 rfl (by unfold ph_f; rw [hr]; rfl) kk
theorem lfRX3_114 : Cond.fieldLink RX3 114 (TX3 14).1 (TX3 14).2.1 (TX3 14).2.2.1 ∈ TW := (TWt 110 (by decide +kernel) (by decide +kernel))
theorem gCRX3_114 {k : Nat} {rf : Nat → Option (Option Nat)} {v : Int32} (C : FC X Y l0 cc nL RX3 rm mc ms ret) (hd : decode cc pc = .ok (.getfield 114, 3)) (hk : k < n) (hS : S k = .inr (.inl (2, 18, rf))) (hr : rf 14 = none) (hv : h k 14 = v) (kk : FJ X Y ad n S h (pc + 3) lv (.int v :: st)) : FJ X Y ad n S h pc lv (.ref (ad k) :: st) := j_get (j := 14) C hd hk hS rfl inX3 (by decide) lfRX3_114 rfl (by unfold ph_f; rw [hr, hv]) kk
theorem pCRX3_114 {k : Nat} {rf : Nat → Option (Option Nat)} {v : Int32} (C : FC X Y l0 cc nL RX3 rm mc ms ret) (hd : decode cc pc = .ok (.putfield 114, 3)) (hk : k < n) (hS : S k = .inr (.inl (2, 18, rf))) (hr : rf 14 = none) (kk : FJ X Y ad n S (hs h k 14 v) (pc + 3) lv st) : FJ X Y ad n S h pc lv (.int v :: .ref (ad k) :: st) := j_put (ty := .int) (j := 14) C hd hk hS rfl inX3 tyX3_ok nmX3 (by decide) lfRX3_114 rfl rfl hr (by decide +kernel) rfl rfl kk
theorem lfRX3_117 : Cond.fieldLink RX3 117 (TX3 15).1 (TX3 15).2.1 (TX3 15).2.2.1 ∈ TW := (TWt 112 (by decide +kernel) (by decide +kernel))
theorem gCRX3_117 {k : Nat} {rf : Nat → Option (Option Nat)} {v : Int32} (C : FC X Y l0 cc nL RX3 rm mc ms ret) (hd : decode cc pc = .ok (.getfield 117, 3)) (hk : k < n) (hS : S k = .inr (.inl (2, 18, rf))) (hr : rf 15 = none) (hv : h k 15 = v) (kk : FJ X Y ad n S h (pc + 3) lv (.int v :: st)) : FJ X Y ad n S h pc lv (.ref (ad k) :: st) := j_get (j := 15) C hd hk hS rfl inX3 (by decide) lfRX3_117 rfl (by unfold ph_f; rw [hr, hv]) kk
theorem pCRX3_117 {k : Nat} {rf : Nat → Option (Option Nat)} {v : Int32} (C : FC X Y l0 cc nL RX3 rm mc ms ret) (hd : decode cc pc = .ok (.putfield 117, 3)) (hk : k < n) (hS : S k = .inr (.inl (2, 18, rf))) (hr : rf 15 = none) (kk : FJ X Y ad n S (hs h k 15 v) (pc + 3) lv st) : FJ X Y ad n S h pc lv (.int v :: .ref (ad k) :: st) := j_put (ty := .int) (j := 15) C hd hk hS rfl inX3 tyX3_ok nmX3 (by decide) lfRX3_117 rfl rfl hr (by decide +kernel) rfl rfl kk
theorem lfRX3_120 : Cond.fieldLink RX3 120 (TX3 16).1 (TX3 16).2.1 (TX3 16).2.2.1 ∈ TW := (TWt 114 (by decide +kernel) (by decide +kernel))
theorem gCRX3_120 {k : Nat} {rf : Nat → Option (Option Nat)} {v : Int32} (C : FC X Y l0 cc nL RX3 rm mc ms ret) (hd : decode cc pc = .ok (.getfield 120, 3)) (hk : k < n) (hS : S k = .inr (.inl (2, 18, rf))) (hr : rf 16 = none) (hv : h k 16 = v) (kk : FJ X Y ad n S h (pc + 3) lv (.int v :: st)) : FJ X Y ad n S h pc lv (.ref (ad k) :: st) := j_get (j := 16) C hd hk hS rfl inX3 (by decide) lfRX3_120 rfl (by unfold ph_f; rw [hr, hv]) kk
theorem pCRX3_120 {k : Nat} {rf : Nat → Option (Option Nat)} {v : Int32} (C : FC X Y l0 cc nL RX3 rm mc ms ret) (hd : decode cc pc = .ok (.putfield 120, 3)) (hk : k < n) (hS : S k = .inr (.inl (2, 18, rf))) (hr : rf 16 = none) (kk : FJ X Y ad n S (hs h k 16 v) (pc + 3) lv st) : FJ X Y ad n S h pc lv (.int v :: .ref (ad k) :: st) := j_put (ty := .int) (j := 16) C hd hk hS rfl inX3 tyX3_ok nmX3 (by decide) lfRX3_120 rfl rfl hr (by decide +kernel) rfl rfl kk
theorem lfRX3_123 : Cond.fieldLink RX3 123 (TX3 17).1 (TX3 17).2.1 (TX3 17).2.2.1 ∈ TW := (TWt 116 (by decide +kernel) (by decide +kernel))
theorem gCRX3_123 {k : Nat} {rf : Nat → Option (Option Nat)} {v : Int32} (C : FC X Y l0 cc nL RX3 rm mc ms ret) (hd : decode cc pc = .ok (.getfield 123, 3)) (hk : k < n) (hS : S k = .inr (.inl (2, 18, rf))) (hr : rf 17 = none) (hv : h k 17 = v) (kk : FJ X Y ad n S h (pc + 3) lv (.int v :: st)) : FJ X Y ad n S h pc lv (.ref (ad k) :: st) := j_get (j := 17) C hd hk hS rfl inX3 (by decide) lfRX3_123 rfl (by unfold ph_f; rw [hr, hv]) kk
theorem pCRX3_123 {k : Nat} {rf : Nat → Option (Option Nat)} {v : Int32} (C : FC X Y l0 cc nL RX3 rm mc ms ret) (hd : decode cc pc = .ok (.putfield 123, 3)) (hk : k < n) (hS : S k = .inr (.inl (2, 18, rf))) (hr : rf 17 = none) (kk : FJ X Y ad n S (hs h k 17 v) (pc + 3) lv st) : FJ X Y ad n S h pc lv (.int v :: .ref (ad k) :: st) := j_put (ty := .int) (j := 17) C hd hk hS rfl inX3 tyX3_ok nmX3 (by decide) lfRX3_123 rfl rfl hr (by decide +kernel) rfl rfl kk
theorem lfRX3_126 : Cond.fieldLink RX3 126 (TX3 13).1 (TX3 13).2.1 (TX3 13).2.2.1 ∈ TW := (TWt 108 (by decide +kernel) (by decide +kernel))
theorem gCRX3_126 {k : Nat} {rf : Nat → Option (Option Nat)} {v : Int32} (C : FC X Y l0 cc nL RX3 rm mc ms ret) (hd : decode cc pc = .ok (.getfield 126, 3)) (hk : k < n) (hS : S k = .inr (.inl (2, 18, rf))) (hr : rf 13 = none) (hv : h k 13 = v) (kk : FJ X Y ad n S h (pc + 3) lv (.int v :: st)) : FJ X Y ad n S h pc lv (.ref (ad k) :: st) := j_get (j := 13) C hd hk hS rfl inX3 (by decide) lfRX3_126 rfl (by unfold ph_f; rw [hr, hv]) kk
theorem pCRX3_126 {k : Nat} {rf : Nat → Option (Option Nat)} {v : Int32} (C : FC X Y l0 cc nL RX3 rm mc ms ret) (hd : decode cc pc = .ok (.putfield 126, 3)) (hk : k < n) (hS : S k = .inr (.inl (2, 18, rf))) (hr : rf 13 = none) (kk : FJ X Y ad n S (hs h k 13 v) (pc + 3) lv st) : FJ X Y ad n S h pc lv (.int v :: .ref (ad k) :: st) := j_put (ty := .int) (j := 13) C hd hk hS rfl inX3 tyX3_ok nmX3 (by decide) lfRX3_126 rfl rfl hr (by decide +kernel) rfl rfl kk
theorem lfRX3_208 : Cond.fieldLink RX3 208 (TX5 3).1 (TX5 3).2.1 (TX5 3).2.2.1 ∈ TW := (TWt 47 (by decide +kernel) (by decide +kernel))
theorem gCRX3_208 {k : Nat} {rf : Nat → Option (Option Nat)} {r : Nat} (C : FC X Y l0 cc nL RX3 rm mc ms ret) (hd : decode cc pc = .ok (.getfield 208, 3)) (hk : k < n) (hS : S k = .inr (.inl (4, 8, rf))) (hr : rf 3 = some (some r)) (kk : FJ X Y ad n S h (pc + 3) lv (.ref (ad r) :: st)) : FJ X Y ad n S h pc lv (.ref (ad k) :: st) := j_get (j := 3) C hd hk hS rfl inX5 (by decide) lfRX3_208 rfl (by unfold ph_f; rw [hr]; rfl) kk
theorem lfRX4_9 : Cond.fieldLink RX4 9 (TX4 1).1 (TX4 1).2.1 (TX4 1).2.2.1 ∈ TW := (TWt 238 (by decide +kernel) (by decide +kernel))
theorem gCRX4_9 {k : Nat} {rf : Nat → Option (Option Nat)} {r : Nat} (C : FC X Y l0 cc nL RX4 rm mc ms ret) (hd : decode cc pc = .ok (.getfield 9, 3)) (hk : k < n) (hS : S k = .inr (.inl (3, 7, rf))) (hr : rf 1 = some (some r)) (kk : FJ X Y ad n S h (pc + 3) lv (.ref (ad r) :: st)) : FJ X Y ad n S h pc lv (.ref (ad k) :: st) := j_get (j := 1) C hd hk hS rfl inX4 (by decide) lfRX4_9 rfl (by unfold ph_f; rw [hr]; rfl) kk
theorem lfRX4_15 : Cond.fieldLink RX4 15 (TX4 2).1 (TX4 2).2.1 (TX4 2).2.2.1 ∈ TW := (TWt 239 (by decide +kernel) (by decide +kernel))
theorem gCRX4_15 {k : Nat} {rf : Nat → Option (Option Nat)} {r : Nat} (C : FC X Y l0 cc nL RX4 rm mc ms ret) (hd : decode cc pc = .ok (.getfield 15, 3)) (hk : k < n) (hS : S k = .inr (.inl (3, 7, rf))) (hr : rf 2 = some (some r)) (kk : FJ X Y ad n S h (pc + 3) lv (.ref (ad r) :: st)) : FJ X Y ad n S h pc lv (.ref (ad k) :: st) := j_get (j := 2) C hd hk hS rfl inX4 (by decide) lfRX4_15 rfl (by unfold ph_f; rw [hr]; rfl) kk
theorem lfRX4_18 : Cond.fieldLink RX4 18 (TX4 3).1 (TX4 3).2.1 (TX4 3).2.2.1 ∈ TW := (TWt 240 (by decide +kernel) (by decide +kernel))
theorem gCRX4_18 {k : Nat} {rf : Nat → Option (Option Nat)} {r : Nat} (C : FC X Y l0 cc nL RX4 rm mc ms ret) (hd : decode cc pc = .ok (.getfield 18, 3)) (hk : k < n) (hS : S k = .inr (.inl (3, 7, rf))) (hr : rf 3 = some (some r)) (kk : FJ X Y ad n S h (pc + 3) lv (.ref (ad r) :: st)) : FJ X Y ad n S h pc lv (.ref (ad k) :: st) := j_get (j := 3) C hd hk hS rfl inX4 (by decide) lfRX4_18 rfl (by unfold ph_f; rw [hr]; rfl) kk
theorem lfRX4_21 : Cond.fieldLink RX4 21 (TX4 4).1 (TX4 4).2.1 (TX4 4).2.2.1 ∈ TW := (TWt 241 (by decide +kernel) (by decide +kernel))
theorem gCRX4_21 {k : Nat} {rf : Nat → Option (Option Nat)} {r : Nat} (C : FC X Y l0 cc nL RX4 rm mc ms ret) (hd : decode cc pc = .ok (.getfield 21, 3)) (hk : k < n) (hS : S k = .inr (.inl (3, 7, rf))) (hr : rf 4 = some (some r)) (kk : FJ X Y ad n S h (pc + 3) lv (.ref (ad r) :: st)) : FJ X Y ad n S h pc lv (.ref (ad k) :: st) := j_get (j := 4) C hd hk hS rfl inX4 (by decide) lfRX4_21 rfl (by unfold ph_f; rw [hr]; rfl) kk
theorem lfRX4_24 : Cond.fieldLink RX4 24 (TX4 0).1 (TX4 0).2.1 (TX4 0).2.2.1 ∈ TW := (TWt 237 (by decide +kernel) (by decide +kernel))
theorem gCRX4_24 {k : Nat} {rf : Nat → Option (Option Nat)} {r : Nat} (C : FC X Y l0 cc nL RX4 rm mc ms ret) (hd : decode cc pc = .ok (.getfield 24, 3)) (hk : k < n) (hS : S k = .inr (.inl (3, 7, rf))) (hr : rf 0 = some (some r)) (kk : FJ X Y ad n S h (pc + 3) lv (.ref (ad r) :: st)) : FJ X Y ad n S h pc lv (.ref (ad k) :: st) := j_get (j := 0) C hd hk hS rfl inX4 (by decide) lfRX4_24 rfl (by unfold ph_f; rw [hr]; rfl) kk
theorem lfRX4_28 : Cond.fieldLink RX4 28 (TX4 6).1 (TX4 6).2.1 (TX4 6).2.2.1 ∈ TW := (TWt 244 (by decide +kernel) (by decide +kernel))
theorem gCRX4_28 {k : Nat} {rf : Nat → Option (Option Nat)} {v : Int32} (C : FC X Y l0 cc nL RX4 rm mc ms ret) (hd : decode cc pc = .ok (.getfield 28, 3)) (hk : k < n) (hS : S k = .inr (.inl (3, 7, rf))) (hr : rf 6 = none) (hv : h k 6 = v) (kk : FJ X Y ad n S h (pc + 3) lv (.int v :: st)) : FJ X Y ad n S h pc lv (.ref (ad k) :: st) := j_get (j := 6) C hd hk hS rfl inX4 (by decide) lfRX4_28 rfl (by unfold ph_f; rw [hr, hv]) kk
theorem pCRX4_28 {k : Nat} {rf : Nat → Option (Option Nat)} {v : Int32} (C : FC X Y l0 cc nL RX4 rm mc ms ret) (hd : decode cc pc = .ok (.putfield 28, 3)) (hk : k < n) (hS : S k = .inr (.inl (3, 7, rf))) (hr : rf 6 = none) (hb : bo v) (kk : FJ X Y ad n S (hs h k 6 v) (pc + 3) lv st) : FJ X Y ad n S h pc lv (.int v :: .ref (ad k) :: st) := j_put (ty := .boolean) (j := 6) C hd hk hS rfl inX4 tyX4_ok nmX4 (by decide) lfRX4_28 rfl rfl hr (by decide +kernel) (bo_n hb) (bo_f hb) kk
theorem lfRX4_38 : Cond.fieldLink RX4 38 (TX4 5).1 (TX4 5).2.1 (TX4 5).2.2.1 ∈ TW := (TWt 242 (by decide +kernel) (by decide +kernel))
theorem gCRX4_38 {k : Nat} {rf : Nat → Option (Option Nat)} {v : Int32} (C : FC X Y l0 cc nL RX4 rm mc ms ret) (hd : decode cc pc = .ok (.getfield 38, 3)) (hk : k < n) (hS : S k = .inr (.inl (3, 7, rf))) (hr : rf 5 = none) (hv : h k 5 = v) (kk : FJ X Y ad n S h (pc + 3) lv (.int v :: st)) : FJ X Y ad n S h pc lv (.ref (ad k) :: st) := j_get (j := 5) C hd hk hS rfl inX4 (by decide) lfRX4_38 rfl (by unfold ph_f; rw [hr, hv]) kk
theorem pCRX4_38 {k : Nat} {rf : Nat → Option (Option Nat)} {v : Int32} (C : FC X Y l0 cc nL RX4 rm mc ms ret) (hd : decode cc pc = .ok (.putfield 38, 3)) (hk : k < n) (hS : S k = .inr (.inl (3, 7, rf))) (hr : rf 5 = none) (kk : FJ X Y ad n S (hs h k 5 v) (pc + 3) lv st) : FJ X Y ad n S h pc lv (.int v :: .ref (ad k) :: st) := j_put (ty := .int) (j := 5) C hd hk hS rfl inX4 tyX4_ok nmX4 (by decide) lfRX4_38 rfl rfl hr (by decide +kernel) rfl rfl kk
theorem lfRX4_42 : Cond.fieldLink RX4 42 (TX10 11).1 (TX10 11).2.1 (TX10 11).2.2.1 ∈ TW := (TWt 184 (by decide +kernel) (by decide +kernel))
theorem gCRX4_42 {k : Nat} {rf : Nat → Option (Option Nat)} {v : Int32} (C : FC X Y l0 cc nL RX4 rm mc ms ret) (hd : decode cc pc = .ok (.getfield 42, 3)) (hk : k < n) (hS : S k = .inr (.inl (9, 17, rf))) (hr : rf 11 = none) (hv : h k 11 = v) (kk : FJ X Y ad n S h (pc + 3) lv (.int v :: st)) : FJ X Y ad n S h pc lv (.ref (ad k) :: st) := j_get (j := 11) C hd hk hS rfl inX10 (by decide) lfRX4_42 rfl (by unfold ph_f; rw [hr, hv]) kk
theorem pCRX4_42 {k : Nat} {rf : Nat → Option (Option Nat)} {v : Int32} (C : FC X Y l0 cc nL RX4 rm mc ms ret) (hd : decode cc pc = .ok (.putfield 42, 3)) (hk : k < n) (hS : S k = .inr (.inl (9, 17, rf))) (hr : rf 11 = none) (kk : FJ X Y ad n S (hs h k 11 v) (pc + 3) lv st) : FJ X Y ad n S h pc lv (.int v :: .ref (ad k) :: st) := j_put (ty := .int) (j := 11) C hd hk hS rfl inX10 tyX10_ok nmX10 (by decide) lfRX4_42 rfl rfl hr (by decide +kernel) rfl rfl kk
theorem lfRX4_55 : Cond.fieldLink RX4 55 (TX10 0).1 (TX10 0).2.1 (TX10 0).2.2.1 ∈ TW := (TWt 161 (by decide +kernel) (by decide +kernel))
theorem gCRX4_55 {k : Nat} {rf : Nat → Option (Option Nat)} {r : Nat} (C : FC X Y l0 cc nL RX4 rm mc ms ret) (hd : decode cc pc = .ok (.getfield 55, 3)) (hk : k < n) (hS : S k = .inr (.inl (9, 17, rf))) (hr : rf 0 = some (some r)) (kk : FJ X Y ad n S h (pc + 3) lv (.ref (ad r) :: st)) : FJ X Y ad n S h pc lv (.ref (ad k) :: st) := j_get (j := 0) C hd hk hS rfl inX10 (by decide) lfRX4_55 rfl (by unfold ph_f; rw [hr]; rfl) kk
theorem lfRX4_58 : Cond.fieldLink RX4 58 (TX10 8).1 (TX10 8).2.1 (TX10 8).2.2.1 ∈ TW := (TWt 178 (by decide +kernel) (by decide +kernel))
theorem gCRX4_58 {k : Nat} {rf : Nat → Option (Option Nat)} {r : Nat} (C : FC X Y l0 cc nL RX4 rm mc ms ret) (hd : decode cc pc = .ok (.getfield 58, 3)) (hk : k < n) (hS : S k = .inr (.inl (9, 17, rf))) (hr : rf 8 = some (some r)) (kk : FJ X Y ad n S h (pc + 3) lv (.ref (ad r) :: st)) : FJ X Y ad n S h pc lv (.ref (ad k) :: st) := j_get (j := 8) C hd hk hS rfl inX10 (by decide) lfRX4_58 rfl (by unfold ph_f; rw [hr]; rfl) kk
theorem lfRX4_61 : Cond.fieldLink RX4 61 (TX10 7).1 (TX10 7).2.1 (TX10 7).2.2.1 ∈ TW := (TWt 175 (by decide +kernel) (by decide +kernel))
theorem gCRX4_61 {k : Nat} {rf : Nat → Option (Option Nat)} {r : Nat} (C : FC X Y l0 cc nL RX4 rm mc ms ret) (hd : decode cc pc = .ok (.getfield 61, 3)) (hk : k < n) (hS : S k = .inr (.inl (9, 17, rf))) (hr : rf 7 = some (some r)) (kk : FJ X Y ad n S h (pc + 3) lv (.ref (ad r) :: st)) : FJ X Y ad n S h pc lv (.ref (ad k) :: st) := j_get (j := 7) C hd hk hS rfl inX10 (by decide) lfRX4_61 rfl (by unfold ph_f; rw [hr]; rfl) kk
theorem lfRX4_83 : Cond.fieldLink RX4 83 (TX10 4).1 (TX10 4).2.1 (TX10 4).2.2.1 ∈ TW := (TWt 170 (by decide +kernel) (by decide +kernel))
theorem gCRX4_83 {k : Nat} {rf : Nat → Option (Option Nat)} {r : Nat} (C : FC X Y l0 cc nL RX4 rm mc ms ret) (hd : decode cc pc = .ok (.getfield 83, 3)) (hk : k < n) (hS : S k = .inr (.inl (9, 17, rf))) (hr : rf 4 = some (some r)) (kk : FJ X Y ad n S h (pc + 3) lv (.ref (ad r) :: st)) : FJ X Y ad n S h pc lv (.ref (ad k) :: st) := j_get (j := 4) C hd hk hS rfl inX10 (by decide) lfRX4_83 rfl (by unfold ph_f; rw [hr]; rfl) kk
theorem lfRX5_9 : Cond.fieldLink RX5 9 (TX5 0).1 (TX5 0).2.1 (TX5 0).2.2.1 ∈ TW := (TWt 37 (by decide +kernel) (by decide +kernel))
theorem gCRX5_9 {k : Nat} {rf : Nat → Option (Option Nat)} {r : Nat} (C : FC X Y l0 cc nL RX5 rm mc ms ret) (hd : decode cc pc = .ok (.getfield 9, 3)) (hk : k < n) (hS : S k = .inr (.inl (4, 8, rf))) (hr : rf 0 = some (some r)) (kk : FJ X Y ad n S h (pc + 3) lv (.ref (ad r) :: st)) : FJ X Y ad n S h pc lv (.ref (ad k) :: st) := j_get (j := 0) C hd hk hS rfl inX5 (by decide) lfRX5_9 rfl (by unfold ph_f; rw [hr]; rfl) kk
theorem lfRX5_15 : Cond.fieldLink RX5 15 (TX5 1).1 (TX5 1).2.1 (TX5 1).2.2.1 ∈ TW := (TWt 39 (by decide +kernel) (by decide +kernel))
theorem gCRX5_15 {k : Nat} {rf : Nat → Option (Option Nat)} {r : Nat} (C : FC X Y l0 cc nL RX5 rm mc ms ret) (hd : decode cc pc = .ok (.getfield 15, 3)) (hk : k < n) (hS : S k = .inr (.inl (4, 8, rf))) (hr : rf 1 = some (some r)) (kk : FJ X Y ad n S h (pc + 3) lv (.ref (ad r) :: st)) : FJ X Y ad n S h pc lv (.ref (ad k) :: st) := j_get (j := 1) C hd hk hS rfl inX5 (by decide) lfRX5_15 rfl (by unfold ph_f; rw [hr]; rfl) kk
theorem lfRX5_18 : Cond.fieldLink RX5 18 (TX5 2).1 (TX5 2).2.1 (TX5 2).2.2.1 ∈ TW := (TWt 42 (by decide +kernel) (by decide +kernel))
theorem gCRX5_18 {k : Nat} {rf : Nat → Option (Option Nat)} {r : Nat} (C : FC X Y l0 cc nL RX5 rm mc ms ret) (hd : decode cc pc = .ok (.getfield 18, 3)) (hk : k < n) (hS : S k = .inr (.inl (4, 8, rf))) (hr : rf 2 = some (some r)) (kk : FJ X Y ad n S h (pc + 3) lv (.ref (ad r) :: st)) : FJ X Y ad n S h pc lv (.ref (ad k) :: st) := j_get (j := 2) C hd hk hS rfl inX5 (by decide) lfRX5_18 rfl (by unfold ph_f; rw [hr]; rfl) kk
theorem lfRX5_21 : Cond.fieldLink RX5 21 (TX5 3).1 (TX5 3).2.1 (TX5 3).2.2.1 ∈ TW := (TWt 45 (by decide +kernel) (by decide +kernel))
theorem gCRX5_21 {k : Nat} {rf : Nat → Option (Option Nat)} {r : Nat} (C : FC X Y l0 cc nL RX5 rm mc ms ret) (hd : decode cc pc = .ok (.getfield 21, 3)) (hk : k < n) (hS : S k = .inr (.inl (4, 8, rf))) (hr : rf 3 = some (some r)) (kk : FJ X Y ad n S h (pc + 3) lv (.ref (ad r) :: st)) : FJ X Y ad n S h pc lv (.ref (ad k) :: st) := j_get (j := 3) C hd hk hS rfl inX5 (by decide) lfRX5_21 rfl (by unfold ph_f; rw [hr]; rfl) kk
theorem lfRX5_24 : Cond.fieldLink RX5 24 (TX5 4).1 (TX5 4).2.1 (TX5 4).2.2.1 ∈ TW := (TWt 48 (by decide +kernel) (by decide +kernel))
theorem gCRX5_24 {k : Nat} {rf : Nat → Option (Option Nat)} {r : Nat} (C : FC X Y l0 cc nL RX5 rm mc ms ret) (hd : decode cc pc = .ok (.getfield 24, 3)) (hk : k < n) (hS : S k = .inr (.inl (4, 8, rf))) (hr : rf 4 = some (some r)) (kk : FJ X Y ad n S h (pc + 3) lv (.ref (ad r) :: st)) : FJ X Y ad n S h pc lv (.ref (ad k) :: st) := j_get (j := 4) C hd hk hS rfl inX5 (by decide) lfRX5_24 rfl (by unfold ph_f; rw [hr]; rfl) kk
theorem lfRX5_27 : Cond.fieldLink RX5 27 (TX5 5).1 (TX5 5).2.1 (TX5 5).2.2.1 ∈ TW := (TWt 51 (by decide +kernel) (by decide +kernel))
theorem gCRX5_27 {k : Nat} {rf : Nat → Option (Option Nat)} {r : Nat} (C : FC X Y l0 cc nL RX5 rm mc ms ret) (hd : decode cc pc = .ok (.getfield 27, 3)) (hk : k < n) (hS : S k = .inr (.inl (4, 8, rf))) (hr : rf 5 = some (some r)) (kk : FJ X Y ad n S h (pc + 3) lv (.ref (ad r) :: st)) : FJ X Y ad n S h pc lv (.ref (ad k) :: st) := j_get (j := 5) C hd hk hS rfl inX5 (by decide) lfRX5_27 rfl (by unfold ph_f; rw [hr]; rfl) kk
theorem lfRX5_36 : Cond.fieldLink RX5 36 (TX5 6).1 (TX5 6).2.1 (TX5 6).2.2.1 ∈ TW := (TWt 54 (by decide +kernel) (by decide +kernel))
theorem gCRX5_36 {k : Nat} {rf : Nat → Option (Option Nat)} {v : Int32} (C : FC X Y l0 cc nL RX5 rm mc ms ret) (hd : decode cc pc = .ok (.getfield 36, 3)) (hk : k < n) (hS : S k = .inr (.inl (4, 8, rf))) (hr : rf 6 = none) (hv : h k 6 = v) (kk : FJ X Y ad n S h (pc + 3) lv (.int v :: st)) : FJ X Y ad n S h pc lv (.ref (ad k) :: st) := j_get (j := 6) C hd hk hS rfl inX5 (by decide) lfRX5_36 rfl (by unfold ph_f; rw [hr, hv]) kk
theorem pCRX5_36 {k : Nat} {rf : Nat → Option (Option Nat)} {v : Int32} (C : FC X Y l0 cc nL RX5 rm mc ms ret) (hd : decode cc pc = .ok (.putfield 36, 3)) (hk : k < n) (hS : S k = .inr (.inl (4, 8, rf))) (hr : rf 6 = none) (kk : FJ X Y ad n S (hs h k 6 v) (pc + 3) lv st) : FJ X Y ad n S h pc lv (.int v :: .ref (ad k) :: st) := j_put (ty := .int) (j := 6) C hd hk hS rfl inX5 tyX5_ok nmX5 (by decide) lfRX5_36 rfl rfl hr (by decide +kernel) rfl rfl kk
theorem lfRX5_40 : Cond.fieldLink RX5 40 (TX5 7).1 (TX5 7).2.1 (TX5 7).2.2.1 ∈ TW := (TWt 57 (by decide +kernel) (by decide +kernel))
theorem gCRX5_40 {k : Nat} {rf : Nat → Option (Option Nat)} {v : Int32} (C : FC X Y l0 cc nL RX5 rm mc ms ret) (hd : decode cc pc = .ok (.getfield 40, 3)) (hk : k < n) (hS : S k = .inr (.inl (4, 8, rf))) (hr : rf 7 = none) (hv : h k 7 = v) (kk : FJ X Y ad n S h (pc + 3) lv (.int v :: st)) : FJ X Y ad n S h pc lv (.ref (ad k) :: st) := j_get (j := 7) C hd hk hS rfl inX5 (by decide) lfRX5_40 rfl (by unfold ph_f; rw [hr, hv]) kk
theorem pCRX5_40 {k : Nat} {rf : Nat → Option (Option Nat)} {v : Int32} (C : FC X Y l0 cc nL RX5 rm mc ms ret) (hd : decode cc pc = .ok (.putfield 40, 3)) (hk : k < n) (hS : S k = .inr (.inl (4, 8, rf))) (hr : rf 7 = none) (kk : FJ X Y ad n S (hs h k 7 v) (pc + 3) lv st) : FJ X Y ad n S h pc lv (.int v :: .ref (ad k) :: st) := j_put (ty := .int) (j := 7) C hd hk hS rfl inX5 tyX5_ok nmX5 (by decide) lfRX5_40 rfl rfl hr (by decide +kernel) rfl rfl kk
theorem lfRX6_11 : Cond.fieldLink RX6 11 (TX6 2).1 (TX6 2).2.1 (TX6 2).2.2.1 ∈ TW := (TWt 270 (by decide +kernel) (by decide +kernel))
theorem gCRX6_11 {k : Nat} {rf : Nat → Option (Option Nat)} {r : Nat} (C : FC X Y l0 cc nL RX6 rm mc ms ret) (hd : decode cc pc = .ok (.getfield 11, 3)) (hk : k < n) (hS : S k = .inr (.inl (5, 11, rf))) (hr : rf 2 = some (some r)) (kk : FJ X Y ad n S h (pc + 3) lv (.ref (ad r) :: st)) : FJ X Y ad n S h pc lv (.ref (ad k) :: st) := j_get (j := 2) C hd hk hS rfl inX6 (by decide) lfRX6_11 rfl (by unfold ph_f; rw [hr]; rfl) kk
theorem lfRX6_16 : Cond.fieldLink RX6 16 (TX6 3).1 (TX6 3).2.1 (TX6 3).2.2.1 ∈ TW := (TWt 271 (by decide +kernel) (by decide +kernel))
theorem gCRX6_16 {k : Nat} {rf : Nat → Option (Option Nat)} {r : Nat} (C : FC X Y l0 cc nL RX6 rm mc ms ret) (hd : decode cc pc = .ok (.getfield 16, 3)) (hk : k < n) (hS : S k = .inr (.inl (5, 11, rf))) (hr : rf 3 = some (some r)) (kk : FJ X Y ad n S h (pc + 3) lv (.ref (ad r) :: st)) : FJ X Y ad n S h pc lv (.ref (ad k) :: st) := j_get (j := 3) C hd hk hS rfl inX6 (by decide) lfRX6_16 rfl (by unfold ph_f; rw [hr]; rfl) kk
theorem lfRX6_20 : Cond.fieldLink RX6 20 (TX6 4).1 (TX6 4).2.1 (TX6 4).2.2.1 ∈ TW := (TWt 272 (by decide +kernel) (by decide +kernel))
theorem gCRX6_20 {k : Nat} {rf : Nat → Option (Option Nat)} {r : Nat} (C : FC X Y l0 cc nL RX6 rm mc ms ret) (hd : decode cc pc = .ok (.getfield 20, 3)) (hk : k < n) (hS : S k = .inr (.inl (5, 11, rf))) (hr : rf 4 = some (some r)) (kk : FJ X Y ad n S h (pc + 3) lv (.ref (ad r) :: st)) : FJ X Y ad n S h pc lv (.ref (ad k) :: st) := j_get (j := 4) C hd hk hS rfl inX6 (by decide) lfRX6_20 rfl (by unfold ph_f; rw [hr]; rfl) kk
theorem lfRX6_23 : Cond.fieldLink RX6 23 (TX6 5).1 (TX6 5).2.1 (TX6 5).2.2.1 ∈ TW := (TWt 274 (by decide +kernel) (by decide +kernel))
theorem gCRX6_23 {k : Nat} {rf : Nat → Option (Option Nat)} {r : Nat} (C : FC X Y l0 cc nL RX6 rm mc ms ret) (hd : decode cc pc = .ok (.getfield 23, 3)) (hk : k < n) (hS : S k = .inr (.inl (5, 11, rf))) (hr : rf 5 = some (some r)) (kk : FJ X Y ad n S h (pc + 3) lv (.ref (ad r) :: st)) : FJ X Y ad n S h pc lv (.ref (ad k) :: st) := j_get (j := 5) C hd hk hS rfl inX6 (by decide) lfRX6_23 rfl (by unfold ph_f; rw [hr]; rfl) kk
theorem lfRX6_26 : Cond.fieldLink RX6 26 (TX6 0).1 (TX6 0).2.1 (TX6 0).2.2.1 ∈ TW := (TWt 268 (by decide +kernel) (by decide +kernel))
theorem gCRX6_26 {k : Nat} {rf : Nat → Option (Option Nat)} {r : Nat} (C : FC X Y l0 cc nL RX6 rm mc ms ret) (hd : decode cc pc = .ok (.getfield 26, 3)) (hk : k < n) (hS : S k = .inr (.inl (5, 11, rf))) (hr : rf 0 = some (some r)) (kk : FJ X Y ad n S h (pc + 3) lv (.ref (ad r) :: st)) : FJ X Y ad n S h pc lv (.ref (ad k) :: st) := j_get (j := 0) C hd hk hS rfl inX6 (by decide) lfRX6_26 rfl (by unfold ph_f; rw [hr]; rfl) kk
theorem lfRX6_30 : Cond.fieldLink RX6 30 (TX6 1).1 (TX6 1).2.1 (TX6 1).2.2.1 ∈ TW := (TWt 269 (by decide +kernel) (by decide +kernel))
theorem gCRX6_30 {k : Nat} {rf : Nat → Option (Option Nat)} {r : Nat} (C : FC X Y l0 cc nL RX6 rm mc ms ret) (hd : decode cc pc = .ok (.getfield 30, 3)) (hk : k < n) (hS : S k = .inr (.inl (5, 11, rf))) (hr : rf 1 = some (some r)) (kk : FJ X Y ad n S h (pc + 3) lv (.ref (ad r) :: st)) : FJ X Y ad n S h pc lv (.ref (ad k) :: st) := j_get (j := 1) C hd hk hS rfl inX6 (by decide) lfRX6_30 rfl (by unfold ph_f; rw [hr]; rfl) kk
theorem lfRX6_34 : Cond.fieldLink RX6 34 (TX6 6).1 (TX6 6).2.1 (TX6 6).2.2.1 ∈ TW := (TWt 276 (by decide +kernel) (by decide +kernel))
theorem gCRX6_34 {k : Nat} {rf : Nat → Option (Option Nat)} {v : Int32} (C : FC X Y l0 cc nL RX6 rm mc ms ret) (hd : decode cc pc = .ok (.getfield 34, 3)) (hk : k < n) (hS : S k = .inr (.inl (5, 11, rf))) (hr : rf 6 = none) (hv : h k 6 = v) (kk : FJ X Y ad n S h (pc + 3) lv (.int v :: st)) : FJ X Y ad n S h pc lv (.ref (ad k) :: st) := j_get (j := 6) C hd hk hS rfl inX6 (by decide) lfRX6_34 rfl (by unfold ph_f; rw [hr, hv]) kk
theorem pCRX6_34 {k : Nat} {rf : Nat → Option (Option Nat)} {v : Int32} (C : FC X Y l0 cc nL RX6 rm mc ms ret) (hd : decode cc pc = .ok (.putfield 34, 3)) (hk : k < n) (hS : S k = .inr (.inl (5, 11, rf))) (hr : rf 6 = none) (kk : FJ X Y ad n S (hs h k 6 v) (pc + 3) lv st) : FJ X Y ad n S h pc lv (.int v :: .ref (ad k) :: st) := j_put (ty := .int) (j := 6) C hd hk hS rfl inX6 tyX6_ok nmX6 (by decide) lfRX6_34 rfl rfl hr (by decide +kernel) rfl rfl kk
theorem lfRX6_38 : Cond.fieldLink RX6 38 (TX6 9).1 (TX6 9).2.1 (TX6 9).2.2.1 ∈ TW := (TWt 281 (by decide +kernel) (by decide +kernel))
theorem gCRX6_38 {k : Nat} {rf : Nat → Option (Option Nat)} {v : Int32} (C : FC X Y l0 cc nL RX6 rm mc ms ret) (hd : decode cc pc = .ok (.getfield 38, 3)) (hk : k < n) (hS : S k = .inr (.inl (5, 11, rf))) (hr : rf 9 = none) (hv : h k 9 = v) (kk : FJ X Y ad n S h (pc + 3) lv (.int v :: st)) : FJ X Y ad n S h pc lv (.ref (ad k) :: st) := j_get (j := 9) C hd hk hS rfl inX6 (by decide) lfRX6_38 rfl (by unfold ph_f; rw [hr, hv]) kk
theorem pCRX6_38 {k : Nat} {rf : Nat → Option (Option Nat)} {v : Int32} (C : FC X Y l0 cc nL RX6 rm mc ms ret) (hd : decode cc pc = .ok (.putfield 38, 3)) (hk : k < n) (hS : S k = .inr (.inl (5, 11, rf))) (hr : rf 9 = none) (kk : FJ X Y ad n S (hs h k 9 v) (pc + 3) lv st) : FJ X Y ad n S h pc lv (.int v :: .ref (ad k) :: st) := j_put (ty := .int) (j := 9) C hd hk hS rfl inX6 tyX6_ok nmX6 (by decide) lfRX6_38 rfl rfl hr (by decide +kernel) rfl rfl kk
theorem lfRX6_45 : Cond.fieldLink RX6 45 (TX6 8).1 (TX6 8).2.1 (TX6 8).2.2.1 ∈ TW := (TWt 279 (by decide +kernel) (by decide +kernel))
theorem gCRX6_45 {k : Nat} {rf : Nat → Option (Option Nat)} {v : Int32} (C : FC X Y l0 cc nL RX6 rm mc ms ret) (hd : decode cc pc = .ok (.getfield 45, 3)) (hk : k < n) (hS : S k = .inr (.inl (5, 11, rf))) (hr : rf 8 = none) (hv : h k 8 = v) (kk : FJ X Y ad n S h (pc + 3) lv (.int v :: st)) : FJ X Y ad n S h pc lv (.ref (ad k) :: st) := j_get (j := 8) C hd hk hS rfl inX6 (by decide) lfRX6_45 rfl (by unfold ph_f; rw [hr, hv]) kk
theorem pCRX6_45 {k : Nat} {rf : Nat → Option (Option Nat)} {v : Int32} (C : FC X Y l0 cc nL RX6 rm mc ms ret) (hd : decode cc pc = .ok (.putfield 45, 3)) (hk : k < n) (hS : S k = .inr (.inl (5, 11, rf))) (hr : rf 8 = none) (kk : FJ X Y ad n S (hs h k 8 v) (pc + 3) lv st) : FJ X Y ad n S h pc lv (.int v :: .ref (ad k) :: st) := j_put (ty := .int) (j := 8) C hd hk hS rfl inX6 tyX6_ok nmX6 (by decide) lfRX6_45 rfl rfl hr (by decide +kernel) rfl rfl kk
theorem lfRX6_56 : Cond.fieldLink RX6 56 (TX6 10).1 (TX6 10).2.1 (TX6 10).2.2.1 ∈ TW := (TWt 283 (by decide +kernel) (by decide +kernel))
theorem gCRX6_56 {k : Nat} {rf : Nat → Option (Option Nat)} {v : Int32} (C : FC X Y l0 cc nL RX6 rm mc ms ret) (hd : decode cc pc = .ok (.getfield 56, 3)) (hk : k < n) (hS : S k = .inr (.inl (5, 11, rf))) (hr : rf 10 = none) (hv : h k 10 = v) (kk : FJ X Y ad n S h (pc + 3) lv (.int v :: st)) : FJ X Y ad n S h pc lv (.ref (ad k) :: st) := j_get (j := 10) C hd hk hS rfl inX6 (by decide) lfRX6_56 rfl (by unfold ph_f; rw [hr, hv]) kk
theorem pCRX6_56 {k : Nat} {rf : Nat → Option (Option Nat)} {v : Int32} (C : FC X Y l0 cc nL RX6 rm mc ms ret) (hd : decode cc pc = .ok (.putfield 56, 3)) (hk : k < n) (hS : S k = .inr (.inl (5, 11, rf))) (hr : rf 10 = none) (hb : bo v) (kk : FJ X Y ad n S (hs h k 10 v) (pc + 3) lv st) : FJ X Y ad n S h pc lv (.int v :: .ref (ad k) :: st) := j_put (ty := .boolean) (j := 10) C hd hk hS rfl inX6 tyX6_ok nmX6 (by decide) lfRX6_56 rfl rfl hr (by decide +kernel) (bo_n hb) (bo_f hb) kk
theorem lfRX6_64 : Cond.fieldLink RX6 64 (TX5 6).1 (TX5 6).2.1 (TX5 6).2.2.1 ∈ TW := (TWt 56 (by decide +kernel) (by decide +kernel))
theorem gCRX6_64 {k : Nat} {rf : Nat → Option (Option Nat)} {v : Int32} (C : FC X Y l0 cc nL RX6 rm mc ms ret) (hd : decode cc pc = .ok (.getfield 64, 3)) (hk : k < n) (hS : S k = .inr (.inl (4, 8, rf))) (hr : rf 6 = none) (hv : h k 6 = v) (kk : FJ X Y ad n S h (pc + 3) lv (.int v :: st)) : FJ X Y ad n S h pc lv (.ref (ad k) :: st) := j_get (j := 6) C hd hk hS rfl inX5 (by decide) lfRX6_64 rfl (by unfold ph_f; rw [hr, hv]) kk
theorem pCRX6_64 {k : Nat} {rf : Nat → Option (Option Nat)} {v : Int32} (C : FC X Y l0 cc nL RX6 rm mc ms ret) (hd : decode cc pc = .ok (.putfield 64, 3)) (hk : k < n) (hS : S k = .inr (.inl (4, 8, rf))) (hr : rf 6 = none) (kk : FJ X Y ad n S (hs h k 6 v) (pc + 3) lv st) : FJ X Y ad n S h pc lv (.int v :: .ref (ad k) :: st) := j_put (ty := .int) (j := 6) C hd hk hS rfl inX5 tyX5_ok nmX5 (by decide) lfRX6_64 rfl rfl hr (by decide +kernel) rfl rfl kk
theorem lfRX6_79 : Cond.fieldLink RX6 79 (TX6 7).1 (TX6 7).2.1 (TX6 7).2.2.1 ∈ TW := (TWt 278 (by decide +kernel) (by decide +kernel))
theorem gCRX6_79 {k : Nat} {rf : Nat → Option (Option Nat)} {v : Int32} (C : FC X Y l0 cc nL RX6 rm mc ms ret) (hd : decode cc pc = .ok (.getfield 79, 3)) (hk : k < n) (hS : S k = .inr (.inl (5, 11, rf))) (hr : rf 7 = none) (hv : h k 7 = v) (kk : FJ X Y ad n S h (pc + 3) lv (.int v :: st)) : FJ X Y ad n S h pc lv (.ref (ad k) :: st) := j_get (j := 7) C hd hk hS rfl inX6 (by decide) lfRX6_79 rfl (by unfold ph_f; rw [hr, hv]) kk
theorem pCRX6_79 {k : Nat} {rf : Nat → Option (Option Nat)} {v : Int32} (C : FC X Y l0 cc nL RX6 rm mc ms ret) (hd : decode cc pc = .ok (.putfield 79, 3)) (hk : k < n) (hS : S k = .inr (.inl (5, 11, rf))) (hr : rf 7 = none) (kk : FJ X Y ad n S (hs h k 7 v) (pc + 3) lv st) : FJ X Y ad n S h pc lv (.int v :: .ref (ad k) :: st) := j_put (ty := .int) (j := 7) C hd hk hS rfl inX6 tyX6_ok nmX6 (by decide) lfRX6_79 rfl rfl hr (by decide +kernel) rfl rfl kk
theorem pP_s {pr : Nat} (W : WS pr n S) (C : FC X Y l0 cc nL RX3 rm mc ms ret) (hd : decode cc pc = .ok (.putfield 39, 3)) (kk : FJ X Y ad n S h (pc + 3) lv st) : FJ X Y ad n S h pc lv (.ref (ad 8) :: .ref (ad 15) :: st) := j_putr (ty := .object "ReplayBox$Program") (j := 9) C hd (W.lt 15 (by decide)) (sh_15 W) rfl inX3 tyX3_ok nmX3 (by decide) lfRX3_39 rfl rfl (by decide +kernel) (fun _ => rfl) (fun _ => rfl) (by
  rw [va_up_id]
  · exact kk
  · rw [sh_15 W, va_up_id]
    rfl)
theorem pP_o {pr r : Nat} (W : WS pr n S) (C : FC X Y l0 cc nL RX3 rm mc ms ret) (hd : decode cc pc = .ok (.putfield 39, 3)) (kk : FJ X Y ad n (spr S r) h (pc + 3) lv st) : FJ X Y ad n S h pc lv (.ref (ad r) :: .ref (ad 25) :: st) := j_putr (ty := .object "ReplayBox$Program") (j := 9) C hd (W.lt 25 (by decide)) (sh_25 W) rfl inX3 tyX3_ok nmX3 (by decide) lfRX3_39 rfl rfl (by decide +kernel) (fun _ => rfl) (fun _ => rfl) (by
  unfold rfO
  rw [va_up2]
  exact kk)
theorem pP_i {pr : Nat} (W : WS pr n S) (C : FC X Y l0 cc nL RX3 rm mc ms ret) (hd : decode cc pc = .ok (.putfield 39, 3)) (kk : FJ X Y ad n S h (pc + 3) lv st) : FJ X Y ad n S h pc lv (.ref (ad pr) :: .ref (ad 25) :: st) := j_putr (ty := .object "ReplayBox$Program") (j := 9) C hd (W.lt 25 (by decide)) (sh_25 W) rfl inX3 tyX3_ok nmX3 (by decide) lfRX3_39 rfl rfl (by decide +kernel) (fun _ => rfl) (fun _ => rfl) (by
  unfold rfO
  rw [va_up2]
  have e := spr_id W
  unfold spr rfO at e
  rw [e]
  exact kk)
end CF
theorem ac_n : Cond.native arraycopyName ∈ TW := (TWt 394 (by decide +kernel) (by decide +kernel))
theorem ac_s : Cond.static arraycopyName ∈ TW := (TWt 393 (by decide +kernel) (by decide +kernel))
theorem ac_i : Cond.initialized "java/lang/System" ∈ TW := (TWt 8 (by decide +kernel) (by decide +kernel))
theorem mx_s : Cond.static Lib.Math.max.name ∈ TW := (TWt 693 (by decide +kernel) (by decide +kernel))
theorem mx_i : Cond.initialized "java/lang/Math" ∈ TW := (TWt 10 (by decide +kernel) (by decide +kernel))
set_option maxRecDepth 16384 in
theorem mx_c : Cond.code Lib.Math.max.name Lib.Math.max.code 2 (some .int) ∈ TW := (TWt 694 rfl (by decide +kernel))
theorem lk_RX3_54 : Cond.methodLink RX3 54 arraycopyName ∈ TW := (TWt 402 (by decide +kernel) (by decide +kernel))
theorem lk_RX4_68 : Cond.methodLink RX4 68 arraycopyName ∈ TW := (TWt 695 (by decide +kernel) (by decide +kernel))
theorem lk_RX5_30 : Cond.methodLink RX5 30 arraycopyName ∈ TW := (TWt 392 (by decide +kernel) (by decide +kernel))
theorem lk_RX11_366 : Cond.methodLink RX11 366 Lib.Math.max.name ∈ TW := (TWt 826 (by decide +kernel) (by decide +kernel))
theorem lk_RX4_74 : Cond.methodLink RX4 74 Lib.Math.max.name ∈ TW := (TWt 692 (by decide +kernel) (by decide +kernel))
theorem lk_RX10_61 : Cond.methodLink RX10 61 yX10_takeTurns ∈ TW := (TWt 407 (by decide +kernel) (by decide +kernel))
theorem lk_RX10_65 : Cond.methodLink RX10 65 yX10_goOn ∈ TW := (TWt 560 (by decide +kernel) (by decide +kernel))
theorem lk_RX10_69 : Cond.methodLink RX10 69 yX10_howOver ∈ TW := (TWt 568 (by decide +kernel) (by decide +kernel))
theorem lk_RX10_97 : Cond.methodLink RX10 97 yX10_advance ∈ TW := (TWt 411 (by decide +kernel) (by decide +kernel))
theorem lk_RX10_101 : Cond.methodLink RX10 101 yX10_latestThread ∈ TW := (TWt 546 (by decide +kernel) (by decide +kernel))
theorem lk_RX10_105 : Cond.methodLink RX10 105 yX3_whoGoes ∈ TW := (TWt 564 (by decide +kernel) (by decide +kernel))
theorem lk_RX10_109 : Cond.methodLink RX10 109 yX3_nextInstruction ∈ TW := (TWt 415 (by decide +kernel) (by decide +kernel))
theorem lk_RX10_112 : Cond.methodLink RX10 112 yX3_go ∈ TW := (TWt 427 (by decide +kernel) (by decide +kernel))
theorem lk_RX10_115 : Cond.methodLink RX10 115 yX10_noteChange ∈ TW := (TWt 542 (by decide +kernel) (by decide +kernel))
theorem lk_RX10_119 : Cond.methodLink RX10 119 yX5_opOf ∈ TW := (TWt 550 (by decide +kernel) (by decide +kernel))
theorem lk_RX10_123 : Cond.methodLink RX10 123 yX10_noteEffects ∈ TW := (TWt 556 (by decide +kernel) (by decide +kernel))
theorem lk_RX10_143 : Cond.methodLink RX10 143 yX3_allStartedHaveEnded ∈ TW := (TWt 572 (by decide +kernel) (by decide +kernel))
theorem lk_RX10_147 : Cond.methodLink RX10 147 yX10_holdsBehind ∈ TW := (TWt 668 (by decide +kernel) (by decide +kernel))
theorem lk_RX11_66 : Cond.methodLink RX11 66 yX11_isThread ∈ TW := (TWt 354 (by decide +kernel) (by decide +kernel))
theorem lk_RX11_74 : Cond.methodLink RX11 74 yX5_firstPart ∈ TW := (TWt 357 (by decide +kernel) (by decide +kernel))
theorem lk_RX11_81 : Cond.methodLink RX11 81 yX11_isCell ∈ TW := (TWt 369 (by decide +kernel) (by decide +kernel))
theorem lk_RX11_102 : Cond.methodLink RX11 102 yX5_become ∈ TW := (TWt 388 (by decide +kernel) (by decide +kernel))
theorem lk_RX11_105 : Cond.methodLink RX11 105 yX3_begin ∈ TW := (TWt 395 (by decide +kernel) (by decide +kernel))
theorem lk_RX11_109 : Cond.methodLink RX11 109 yX10_record ∈ TW := (TWt 403 (by decide +kernel) (by decide +kernel))
theorem lk_RX11_113 : Cond.methodLink RX11 113 yX4_forget ∈ TW := (TWt 576 (by decide +kernel) (by decide +kernel))
theorem lk_RX11_135 : Cond.methodLink RX11 135 yX10_latestThread ∈ TW := (TWt 584 (by decide +kernel) (by decide +kernel))
theorem lk_RX11_172 : Cond.methodLink RX11 172 yX11_goByRecord ∈ TW := (TWt 597 (by decide +kernel) (by decide +kernel))
theorem lk_RX11_179 : Cond.methodLink RX11 179 yX11_isMoment ∈ TW := (TWt 611 (by decide +kernel) (by decide +kernel))
theorem lk_RX11_200 : Cond.methodLink RX11 200 yX11_seenBehind ∈ TW := (TWt 623 (by decide +kernel) (by decide +kernel))
theorem lk_RX11_210 : Cond.methodLink RX11 210 yX3_hasThing ∈ TW := (TWt 631 (by decide +kernel) (by decide +kernel))
theorem lk_RX11_231 : Cond.methodLink RX11 231 yX3_nextInstruction ∈ TW := (TWt 639 (by decide +kernel) (by decide +kernel))
theorem lk_RX11_234 : Cond.methodLink RX11 234 yX3_standing ∈ TW := (TWt 640 (by decide +kernel) (by decide +kernel))
theorem lk_RX11_237 : Cond.methodLink RX11 237 yX10_lastWrite ∈ TW := (TWt 648 (by decide +kernel) (by decide +kernel))
theorem lk_RX11_240 : Cond.methodLink RX11 240 yX10_nextRead ∈ TW := (TWt 656 (by decide +kernel) (by decide +kernel))
theorem lk_RX11_243 : Cond.methodLink RX11 243 yX10_spanCount ∈ TW := (TWt 664 (by decide +kernel) (by decide +kernel))
theorem lk_RX11_247 : Cond.methodLink RX11 247 yX10_spanEdge ∈ TW := (TWt 672 (by decide +kernel) (by decide +kernel))
theorem lk_RX11_251 : Cond.methodLink RX11 251 yX4_prepare ∈ TW := (TWt 680 (by decide +kernel) (by decide +kernel))
theorem lk_RX11_254 : Cond.methodLink RX11 254 yX4_isAhead ∈ TW := (TWt 712 (by decide +kernel) (by decide +kernel))
theorem lk_RX11_260 : Cond.methodLink RX11 260 yX4_laterOf ∈ TW := (TWt 717 (by decide +kernel) (by decide +kernel))
theorem lk_RX11_263 : Cond.methodLink RX11 263 yX10_placeOf ∈ TW := (TWt 721 (by decide +kernel) (by decide +kernel))
theorem lk_RX11_266 : Cond.methodLink RX11 266 yX4_earlierOf ∈ TW := (TWt 722 (by decide +kernel) (by decide +kernel))
theorem lk_RX11_269 : Cond.methodLink RX11 269 yX11_replay ∈ TW := (TWt 627 (by decide +kernel) (by decide +kernel))
theorem lk_RX11_273 : Cond.methodLink RX11 273 yX3_differences ∈ TW := (TWt 730 (by decide +kernel) (by decide +kernel))
theorem lk_RX11_277 : Cond.methodLink RX11 277 yX6_look ∈ TW := (TWt 739 (by decide +kernel) (by decide +kernel))
theorem lk_RX11_355 : Cond.methodLink RX11 355 yX3_go ∈ TW := (TWt 602 (by decide +kernel) (by decide +kernel))
theorem lk_RX11_358 : Cond.methodLink RX11 358 yX3_whoGoes ∈ TW := (TWt 601 (by decide +kernel) (by decide +kernel))
theorem lk_RX3_43 : Cond.methodLink RX3 43 yJ7_fill_53178 ∈ TW := (TWt 399 (by decide +kernel) (by decide +kernel))
theorem lk_RX3_70 : Cond.methodLink RX3 70 yX5_has ∈ TW := (TWt 423 (by decide +kernel) (by decide +kernel))
theorem lk_RX3_74 : Cond.methodLink RX3 74 yX3_hasEnded ∈ TW := (TWt 419 (by decide +kernel) (by decide +kernel))
theorem lk_RX3_78 : Cond.methodLink RX3 78 yX5_firstPart ∈ TW := (TWt 435 (by decide +kernel) (by decide +kernel))
theorem lk_RX3_85 : Cond.methodLink RX3 85 yX3_slotOf ∈ TW := (TWt 436 (by decide +kernel) (by decide +kernel))
theorem lk_RX3_88 : Cond.methodLink RX3 88 yX3_lockIn ∈ TW := (TWt 442 (by decide +kernel) (by decide +kernel))
theorem lk_RX3_92 : Cond.methodLink RX3 92 yX3_canGo ∈ TW := (TWt 431 (by decide +kernel) (by decide +kernel))
theorem lk_RX3_111 : Cond.methodLink RX3 111 yX3_nextInstruction ∈ TW := (TWt 734 (by decide +kernel) (by decide +kernel))
theorem lk_RX3_129 : Cond.methodLink RX3 129 yX3_rise ∈ TW := (TWt 446 (by decide +kernel) (by decide +kernel))
theorem lk_RX3_132 : Cond.methodLink RX3 132 yX3_perform ∈ TW := (TWt 454 (by decide +kernel) (by decide +kernel))
theorem lk_RX3_135 : Cond.methodLink RX3 135 yX3_hold ∈ TW := (TWt 458 (by decide +kernel) (by decide +kernel))
theorem lk_RX3_139 : Cond.methodLink RX3 139 yJ9_floorMod_7cf53 ∈ TW := (TWt 439 (by decide +kernel) (by decide +kernel))
theorem lk_RX3_144 : Cond.methodLink RX3 144 yX3_getCell ∈ TW := (TWt 462 (by decide +kernel) (by decide +kernel))
theorem lk_RX3_147 : Cond.methodLink RX3 147 yX3_putCell ∈ TW := (TWt 466 (by decide +kernel) (by decide +kernel))
theorem lk_RX3_150 : Cond.methodLink RX3 150 yX3_reckon ∈ TW := (TWt 470 (by decide +kernel) (by decide +kernel))
theorem lk_RX3_153 : Cond.methodLink RX3 153 yX3_goTo ∈ TW := (TWt 478 (by decide +kernel) (by decide +kernel))
theorem lk_RX3_156 : Cond.methodLink RX3 156 yX3_goUnless ∈ TW := (TWt 482 (by decide +kernel) (by decide +kernel))
theorem lk_RX3_159 : Cond.methodLink RX3 159 yX3_makeRow ∈ TW := (TWt 486 (by decide +kernel) (by decide +kernel))
theorem lk_RX3_162 : Cond.methodLink RX3 162 yX3_readRow ∈ TW := (TWt 494 (by decide +kernel) (by decide +kernel))
theorem lk_RX3_165 : Cond.methodLink RX3 165 yX3_writeRow ∈ TW := (TWt 502 (by decide +kernel) (by decide +kernel))
theorem lk_RX3_168 : Cond.methodLink RX3 168 yX3_makeLock ∈ TW := (TWt 506 (by decide +kernel) (by decide +kernel))
theorem lk_RX3_172 : Cond.methodLink RX3 172 yX3_takeLock ∈ TW := (TWt 510 (by decide +kernel) (by decide +kernel))
theorem lk_RX3_175 : Cond.methodLink RX3 175 yX3_leaveLock ∈ TW := (TWt 514 (by decide +kernel) (by decide +kernel))
theorem lk_RX3_178 : Cond.methodLink RX3 178 yX3_lieDown ∈ TW := (TWt 522 (by decide +kernel) (by decide +kernel))
theorem lk_RX3_181 : Cond.methodLink RX3 181 yX3_wakeSleepers ∈ TW := (TWt 530 (by decide +kernel) (by decide +kernel))
theorem lk_RX3_184 : Cond.methodLink RX3 184 yX3_takeInput ∈ TW := (TWt 534 (by decide +kernel) (by decide +kernel))
theorem lk_RX3_187 : Cond.methodLink RX3 187 yX3_startThread ∈ TW := (TWt 538 (by decide +kernel) (by decide +kernel))
theorem lk_RX3_190 : Cond.methodLink RX3 190 yX3_bothNumbers ∈ TW := (TWt 474 (by decide +kernel) (by decide +kernel))
theorem lk_RX3_193 : Cond.methodLink RX3 193 yX3_makeThing ∈ TW := (TWt 490 (by decide +kernel) (by decide +kernel))
theorem lk_RX3_196 : Cond.methodLink RX3 196 yX3_hasRowPlace ∈ TW := (TWt 498 (by decide +kernel) (by decide +kernel))
theorem lk_RX3_199 : Cond.methodLink RX3 199 yX3_own ∈ TW := (TWt 450 (by decide +kernel) (by decide +kernel))
theorem lk_RX3_202 : Cond.methodLink RX3 202 yX3_free ∈ TW := (TWt 518 (by decide +kernel) (by decide +kernel))
theorem lk_RX3_205 : Cond.methodLink RX3 205 yX3_gateIn ∈ TW := (TWt 526 (by decide +kernel) (by decide +kernel))
theorem lk_RX4_32 : Cond.methodLink RX4 32 yJ7_fill_53178 ∈ TW := (TWt 684 (by decide +kernel) (by decide +kernel))
theorem lk_RX4_47 : Cond.methodLink RX4 47 yX4_learn ∈ TW := (TWt 685 (by decide +kernel) (by decide +kernel))
theorem lk_RX4_51 : Cond.methodLink RX4 51 yX4_countRaces ∈ TW := (TWt 696 (by decide +kernel) (by decide +kernel))
theorem lk_RX4_64 : Cond.methodLink RX4 64 yX4_join ∈ TW := (TWt 689 (by decide +kernel) (by decide +kernel))
theorem lk_RX4_80 : Cond.methodLink RX4 80 yX10_placeOf ∈ TW := (TWt 700 (by decide +kernel) (by decide +kernel))
theorem lk_RX4_86 : Cond.methodLink RX4 86 yX4_isAhead ∈ TW := (TWt 708 (by decide +kernel) (by decide +kernel))
theorem lk_RX4_90 : Cond.methodLink RX4 90 yX4_isRace ∈ TW := (TWt 704 (by decide +kernel) (by decide +kernel))
theorem lk_RX5_43 : Cond.methodLink RX5 43 yX5_has ∈ TW := (TWt 554 (by decide +kernel) (by decide +kernel))
theorem lk_RX5_47 : Cond.methodLink RX5 47 yX5_firstPart ∈ TW := (TWt 555 (by decide +kernel) (by decide +kernel))
theorem lk_RX6_41 : Cond.methodLink RX6 41 yX6_goThrough ∈ TW := (TWt 743 (by decide +kernel) (by decide +kernel))
theorem lk_RX6_48 : Cond.methodLink RX6 48 yX6_putAhead ∈ TW := (TWt 758 (by decide +kernel) (by decide +kernel))
theorem lk_RX6_52 : Cond.methodLink RX6 52 yX6_putChanges ∈ TW := (TWt 762 (by decide +kernel) (by decide +kernel))
theorem lk_RX6_60 : Cond.methodLink RX6 60 yX6_moveOn ∈ TW := (TWt 766 (by decide +kernel) (by decide +kernel))
theorem lk_RX6_69 : Cond.methodLink RX6 69 yX3_begin ∈ TW := (TWt 747 (by decide +kernel) (by decide +kernel))
theorem lk_RX6_75 : Cond.methodLink RX6 75 yX3_whoGoes ∈ TW := (TWt 748 (by decide +kernel) (by decide +kernel))
theorem lk_RX6_82 : Cond.methodLink RX6 82 yX3_rivalsOf ∈ TW := (TWt 749 (by decide +kernel) (by decide +kernel))
theorem lk_RX6_85 : Cond.methodLink RX6 85 yX6_chosen ∈ TW := (TWt 753 (by decide +kernel) (by decide +kernel))
theorem lk_RX6_88 : Cond.methodLink RX6 88 yX3_go ∈ TW := (TWt 757 (by decide +kernel) (by decide +kernel))
theorem st_J7_fill_53178 : Cond.static yJ7_fill_53178 ∈ TW := (TWt 400 (by decide +kernel) (by decide +kernel))
set_option maxRecDepth 16384 in
theorem CKJ7_fill_53178 {rm : Room} (q : ({ frames := 0, cells := 0, slots := 0, locals := 0 } : Room).frames + 1 ≤ rm.frames ∧ 8 + (4 + 11) + ({ frames := 0, cells := 0, slots := 0, locals := 0 } : Room).locals ≤ rm.locals) : CK rm yJ7_fill_53178 cJ7_fill_53178 4 none ({ frames := 0, cells := 0, slots := 0, locals := 0 } : Room) 2 := ⟨(TWt 401 rfl (by decide +kernel)), (TWt 9 (by decide +kernel) (by decide +kernel)), ⟨by decide, by decide⟩, by decide +kernel, q.1, q.2⟩
theorem st_J9_floorMod_7cf53 : Cond.static yJ9_floorMod_7cf53 ∈ TW := (TWt 440 (by decide +kernel) (by decide +kernel))
set_option maxRecDepth 16384 in
theorem CKJ9_floorMod_7cf53 {rm : Room} (q : ({ frames := 0, cells := 0, slots := 0, locals := 0 } : Room).frames + 1 ≤ rm.frames ∧ 8 + (3 + 11) + ({ frames := 0, cells := 0, slots := 0, locals := 0 } : Room).locals ≤ rm.locals) : CK rm yJ9_floorMod_7cf53 cJ9_floorMod_7cf53 3 (some .int) ({ frames := 0, cells := 0, slots := 0, locals := 0 } : Room) 2 := ⟨(TWt 441 rfl (by decide +kernel)), (TWt 10 (by decide +kernel) (by decide +kernel)), ⟨by decide, by decide⟩, by decide +kernel, q.1, q.2⟩
theorem in_X10_advance : Cond.instanceMethod yX10_advance ∈ TW := (TWt 413 (by decide +kernel) (by decide +kernel))
theorem se_X10_advance : Cond.selects yX10_advance.cls yX10_advance yX10_advance ∈ TW := (TWp 1 (by decide +kernel) (by decide +kernel))
set_option maxRecDepth 16384 in
theorem CKX10_advance {rm : Room} (q : ({ frames := 4, cells := 0, slots := 0, locals := 98 } : Room).frames + 1 ≤ rm.frames ∧ 8 + (5 + 11) + ({ frames := 4, cells := 0, slots := 0, locals := 98 } : Room).locals ≤ rm.locals) : CK rm yX10_advance cX10_advance 5 (some .boolean) ({ frames := 4, cells := 0, slots := 0, locals := 98 } : Room) 2 := ⟨(TWt 414 rfl (by decide +kernel)), (TWt 4 (by decide +kernel) (by decide +kernel)), ⟨by decide, by decide⟩, by decide +kernel, q.1, q.2⟩
theorem in_X10_goOn : Cond.instanceMethod yX10_goOn ∈ TW := (TWt 562 (by decide +kernel) (by decide +kernel))
theorem se_X10_goOn : Cond.selects yX10_goOn.cls yX10_goOn yX10_goOn ∈ TW := (TWp 28 (by decide +kernel) (by decide +kernel))
set_option maxRecDepth 16384 in
theorem CKX10_goOn {rm : Room} (q : ({ frames := 5, cells := 0, slots := 0, locals := 122 } : Room).frames + 1 ≤ rm.frames ∧ 8 + (5 + 11) + ({ frames := 5, cells := 0, slots := 0, locals := 122 } : Room).locals ≤ rm.locals) : CK rm yX10_goOn cX10_goOn 5 none ({ frames := 5, cells := 0, slots := 0, locals := 122 } : Room) 1 := ⟨(TWt 563 rfl (by decide +kernel)), (TWt 4 (by decide +kernel) (by decide +kernel)), ⟨by decide, by decide⟩, by decide +kernel, q.1, q.2⟩
theorem in_X10_holdsBehind : Cond.instanceMethod yX10_holdsBehind ∈ TW := (TWt 670 (by decide +kernel) (by decide +kernel))
theorem se_X10_holdsBehind : Cond.selects yX10_holdsBehind.cls yX10_holdsBehind yX10_holdsBehind ∈ TW := (TWp 34 (by decide +kernel) (by decide +kernel))
set_option maxRecDepth 16384 in
theorem CKX10_holdsBehind {rm : Room} (q : ({ frames := 0, cells := 0, slots := 0, locals := 0 } : Room).frames + 1 ≤ rm.frames ∧ 8 + (5 + 11) + ({ frames := 0, cells := 0, slots := 0, locals := 0 } : Room).locals ≤ rm.locals) : CK rm yX10_holdsBehind cX10_holdsBehind 5 (some .boolean) ({ frames := 0, cells := 0, slots := 0, locals := 0 } : Room) 4 := ⟨(TWt 671 rfl (by decide +kernel)), (TWt 4 (by decide +kernel) (by decide +kernel)), ⟨by decide, by decide⟩, by decide +kernel, q.1, q.2⟩
theorem in_X10_howOver : Cond.instanceMethod yX10_howOver ∈ TW := (TWt 570 (by decide +kernel) (by decide +kernel))
theorem se_X10_howOver : Cond.selects yX10_howOver.cls yX10_howOver yX10_howOver ∈ TW := (TWp 29 (by decide +kernel) (by decide +kernel))
set_option maxRecDepth 16384 in
theorem CKX10_howOver {rm : Room} (q : ({ frames := 4, cells := 0, slots := 0, locals := 88 } : Room).frames + 1 ≤ rm.frames ∧ 8 + (2 + 11) + ({ frames := 4, cells := 0, slots := 0, locals := 88 } : Room).locals ≤ rm.locals) : CK rm yX10_howOver cX10_howOver 2 (some .int) ({ frames := 4, cells := 0, slots := 0, locals := 88 } : Room) 1 := ⟨(TWt 571 rfl (by decide +kernel)), (TWt 4 (by decide +kernel) (by decide +kernel)), ⟨by decide, by decide⟩, by decide +kernel, q.1, q.2⟩
theorem in_X10_lastWrite : Cond.instanceMethod yX10_lastWrite ∈ TW := (TWt 649 (by decide +kernel) (by decide +kernel))
theorem se_X10_lastWrite : Cond.selects yX10_lastWrite.cls yX10_lastWrite yX10_lastWrite ∈ TW := (TWt 650 (by decide +kernel) (by decide +kernel))
set_option maxRecDepth 16384 in
theorem CKX10_lastWrite {rm : Room} (q : ({ frames := 0, cells := 0, slots := 0, locals := 0 } : Room).frames + 1 ≤ rm.frames ∧ 8 + (4 + 11) + ({ frames := 0, cells := 0, slots := 0, locals := 0 } : Room).locals ≤ rm.locals) : CK rm yX10_lastWrite cX10_lastWrite 4 (some .int) ({ frames := 0, cells := 0, slots := 0, locals := 0 } : Room) 2 := ⟨(TWt 651 rfl (by decide +kernel)), (TWt 4 (by decide +kernel) (by decide +kernel)), ⟨by decide, by decide⟩, by decide +kernel, q.1, q.2⟩
theorem in_X10_latestThread : Cond.instanceMethod yX10_latestThread ∈ TW := (TWt 547 (by decide +kernel) (by decide +kernel))
theorem se_X10_latestThread : Cond.selects yX10_latestThread.cls yX10_latestThread yX10_latestThread ∈ TW := (TWt 548 (by decide +kernel) (by decide +kernel))
set_option maxRecDepth 16384 in
theorem CKX10_latestThread {rm : Room} (q : ({ frames := 0, cells := 0, slots := 0, locals := 0 } : Room).frames + 1 ≤ rm.frames ∧ 8 + (1 + 11) + ({ frames := 0, cells := 0, slots := 0, locals := 0 } : Room).locals ≤ rm.locals) : CK rm yX10_latestThread cX10_latestThread 1 (some .int) ({ frames := 0, cells := 0, slots := 0, locals := 0 } : Room) 0 := ⟨(TWt 549 rfl (by decide +kernel)), (TWt 4 (by decide +kernel) (by decide +kernel)), ⟨by decide, by decide⟩, by decide +kernel, q.1, q.2⟩
theorem in_X10_nextRead : Cond.instanceMethod yX10_nextRead ∈ TW := (TWt 657 (by decide +kernel) (by decide +kernel))
theorem se_X10_nextRead : Cond.selects yX10_nextRead.cls yX10_nextRead yX10_nextRead ∈ TW := (TWt 658 (by decide +kernel) (by decide +kernel))
set_option maxRecDepth 16384 in
theorem CKX10_nextRead {rm : Room} (q : ({ frames := 0, cells := 0, slots := 0, locals := 0 } : Room).frames + 1 ≤ rm.frames ∧ 8 + (4 + 11) + ({ frames := 0, cells := 0, slots := 0, locals := 0 } : Room).locals ≤ rm.locals) : CK rm yX10_nextRead cX10_nextRead 4 (some .int) ({ frames := 0, cells := 0, slots := 0, locals := 0 } : Room) 2 := ⟨(TWt 659 rfl (by decide +kernel)), (TWt 4 (by decide +kernel) (by decide +kernel)), ⟨by decide, by decide⟩, by decide +kernel, q.1, q.2⟩
theorem in_X10_noteChange : Cond.instanceMethod yX10_noteChange ∈ TW := (TWt 544 (by decide +kernel) (by decide +kernel))
theorem se_X10_noteChange : Cond.selects yX10_noteChange.cls yX10_noteChange yX10_noteChange ∈ TW := (TWp 26 (by decide +kernel) (by decide +kernel))
set_option maxRecDepth 16384 in
theorem CKX10_noteChange {rm : Room} (q : ({ frames := 1, cells := 0, slots := 0, locals := 20 } : Room).frames + 1 ≤ rm.frames ∧ 8 + (2 + 11) + ({ frames := 1, cells := 0, slots := 0, locals := 20 } : Room).locals ≤ rm.locals) : CK rm yX10_noteChange cX10_noteChange 2 none ({ frames := 1, cells := 0, slots := 0, locals := 20 } : Room) 1 := ⟨(TWt 545 rfl (by decide +kernel)), (TWt 4 (by decide +kernel) (by decide +kernel)), ⟨by decide, by decide⟩, by decide +kernel, q.1, q.2⟩
theorem in_X10_noteEffects : Cond.instanceMethod yX10_noteEffects ∈ TW := (TWt 558 (by decide +kernel) (by decide +kernel))
theorem se_X10_noteEffects : Cond.selects yX10_noteEffects.cls yX10_noteEffects yX10_noteEffects ∈ TW := (TWp 27 (by decide +kernel) (by decide +kernel))
set_option maxRecDepth 16384 in
theorem CKX10_noteEffects {rm : Room} (q : ({ frames := 0, cells := 0, slots := 0, locals := 0 } : Room).frames + 1 ≤ rm.frames ∧ 8 + (3 + 11) + ({ frames := 0, cells := 0, slots := 0, locals := 0 } : Room).locals ≤ rm.locals) : CK rm yX10_noteEffects cX10_noteEffects 3 none ({ frames := 0, cells := 0, slots := 0, locals := 0 } : Room) 1 := ⟨(TWt 559 rfl (by decide +kernel)), (TWt 4 (by decide +kernel) (by decide +kernel)), ⟨by decide, by decide⟩, by decide +kernel, q.1, q.2⟩
theorem in_X10_placeOf : Cond.instanceMethod yX10_placeOf ∈ TW := (TWt 701 (by decide +kernel) (by decide +kernel))
theorem se_X10_placeOf : Cond.selects yX10_placeOf.cls yX10_placeOf yX10_placeOf ∈ TW := (TWt 702 (by decide +kernel) (by decide +kernel))
set_option maxRecDepth 16384 in
theorem CKX10_placeOf {rm : Room} (q : ({ frames := 0, cells := 0, slots := 0, locals := 0 } : Room).frames + 1 ≤ rm.frames ∧ 8 + (2 + 11) + ({ frames := 0, cells := 0, slots := 0, locals := 0 } : Room).locals ≤ rm.locals) : CK rm yX10_placeOf cX10_placeOf 2 (some .int) ({ frames := 0, cells := 0, slots := 0, locals := 0 } : Room) 1 := ⟨(TWt 703 rfl (by decide +kernel)), (TWt 4 (by decide +kernel) (by decide +kernel)), ⟨by decide, by decide⟩, by decide +kernel, q.1, q.2⟩
theorem in_X10_record : Cond.instanceMethod yX10_record ∈ TW := (TWt 404 (by decide +kernel) (by decide +kernel))
theorem se_X10_record : Cond.selects yX10_record.cls yX10_record yX10_record ∈ TW := (TWt 405 (by decide +kernel) (by decide +kernel))
set_option maxRecDepth 16384 in
theorem CKX10_record {rm : Room} (q : ({ frames := 6, cells := 0, slots := 0, locals := 148 } : Room).frames + 1 ≤ rm.frames ∧ 8 + (2 + 11) + ({ frames := 6, cells := 0, slots := 0, locals := 148 } : Room).locals ≤ rm.locals) : CK rm yX10_record cX10_record 2 none ({ frames := 6, cells := 0, slots := 0, locals := 148 } : Room) 1 := ⟨(TWt 406 rfl (by decide +kernel)), (TWt 4 (by decide +kernel) (by decide +kernel)), ⟨by decide, by decide⟩, by decide +kernel, q.1, q.2⟩
theorem in_X10_spanCount : Cond.instanceMethod yX10_spanCount ∈ TW := (TWt 665 (by decide +kernel) (by decide +kernel))
theorem se_X10_spanCount : Cond.selects yX10_spanCount.cls yX10_spanCount yX10_spanCount ∈ TW := (TWt 666 (by decide +kernel) (by decide +kernel))
set_option maxRecDepth 16384 in
theorem CKX10_spanCount {rm : Room} (q : ({ frames := 1, cells := 0, slots := 0, locals := 24 } : Room).frames + 1 ≤ rm.frames ∧ 8 + (8 + 11) + ({ frames := 1, cells := 0, slots := 0, locals := 24 } : Room).locals ≤ rm.locals) : CK rm yX10_spanCount cX10_spanCount 8 (some .int) ({ frames := 1, cells := 0, slots := 0, locals := 24 } : Room) 3 := ⟨(TWt 667 rfl (by decide +kernel)), (TWt 4 (by decide +kernel) (by decide +kernel)), ⟨by decide, by decide⟩, by decide +kernel, q.1, q.2⟩
theorem in_X10_spanEdge : Cond.instanceMethod yX10_spanEdge ∈ TW := (TWt 673 (by decide +kernel) (by decide +kernel))
theorem se_X10_spanEdge : Cond.selects yX10_spanEdge.cls yX10_spanEdge yX10_spanEdge ∈ TW := (TWt 674 (by decide +kernel) (by decide +kernel))
set_option maxRecDepth 16384 in
theorem CKX10_spanEdge {rm : Room} (q : ({ frames := 1, cells := 0, slots := 0, locals := 24 } : Room).frames + 1 ≤ rm.frames ∧ 8 + (10 + 11) + ({ frames := 1, cells := 0, slots := 0, locals := 24 } : Room).locals ≤ rm.locals) : CK rm yX10_spanEdge cX10_spanEdge 10 (some .int) ({ frames := 1, cells := 0, slots := 0, locals := 24 } : Room) 5 := ⟨(TWt 675 rfl (by decide +kernel)), (TWt 4 (by decide +kernel) (by decide +kernel)), ⟨by decide, by decide⟩, by decide +kernel, q.1, q.2⟩
theorem in_X10_takeTurns : Cond.instanceMethod yX10_takeTurns ∈ TW := (TWt 409 (by decide +kernel) (by decide +kernel))
theorem se_X10_takeTurns : Cond.selects yX10_takeTurns.cls yX10_takeTurns yX10_takeTurns ∈ TW := (TWp 0 (by decide +kernel) (by decide +kernel))
set_option maxRecDepth 16384 in
theorem CKX10_takeTurns {rm : Room} (q : ({ frames := 5, cells := 0, slots := 0, locals := 122 } : Room).frames + 1 ≤ rm.frames ∧ 8 + (7 + 11) + ({ frames := 5, cells := 0, slots := 0, locals := 122 } : Room).locals ≤ rm.locals) : CK rm yX10_takeTurns cX10_takeTurns 7 none ({ frames := 5, cells := 0, slots := 0, locals := 122 } : Room) 2 := ⟨(TWt 410 rfl (by decide +kernel)), (TWt 4 (by decide +kernel) (by decide +kernel)), ⟨by decide, by decide⟩, by decide +kernel, q.1, q.2⟩
theorem in_X11_ahead : Cond.instanceMethod yX11_ahead ∈ TW := (TWt 677 (by decide +kernel) (by decide +kernel))
theorem se_X11_ahead : Cond.selects yX11_ahead.cls yX11_ahead yX11_ahead ∈ TW := (TWt 678 (by decide +kernel) (by decide +kernel))
set_option maxRecDepth 16384 in
theorem CKX11_ahead {rm : Room} (q : ({ frames := 4, cells := 0, slots := 0, locals := 94 } : Room).frames + 1 ≤ rm.frames ∧ 8 + (3 + 11) + ({ frames := 4, cells := 0, slots := 0, locals := 94 } : Room).locals ≤ rm.locals) : CK rm yX11_ahead cX11_ahead 3 (some .int) ({ frames := 4, cells := 0, slots := 0, locals := 94 } : Room) 2 := ⟨(TWt 679 rfl (by decide +kernel)), (TWt 1 (by decide +kernel) (by decide +kernel)), ⟨by decide, by decide⟩, by decide +kernel, q.1, q.2⟩
theorem in_X11_back : Cond.instanceMethod yX11_back ∈ TW := (TWt 616 (by decide +kernel) (by decide +kernel))
theorem se_X11_back : Cond.selects yX11_back.cls yX11_back yX11_back ∈ TW := (TWt 617 (by decide +kernel) (by decide +kernel))
set_option maxRecDepth 16384 in
theorem CKX11_back {rm : Room} (q : ({ frames := 0, cells := 0, slots := 0, locals := 0 } : Room).frames + 1 ≤ rm.frames ∧ 8 + (2 + 11) + ({ frames := 0, cells := 0, slots := 0, locals := 0 } : Room).locals ≤ rm.locals) : CK rm yX11_back cX11_back 2 (some .int) ({ frames := 0, cells := 0, slots := 0, locals := 0 } : Room) 1 := ⟨(TWt 618 rfl (by decide +kernel)), (TWt 1 (by decide +kernel) (by decide +kernel)), ⟨by decide, by decide⟩, by decide +kernel, q.1, q.2⟩
theorem in_X11_cell : Cond.instanceMethod yX11_cell ∈ TW := (TWt 366 (by decide +kernel) (by decide +kernel))
theorem se_X11_cell : Cond.selects yX11_cell.cls yX11_cell yX11_cell ∈ TW := (TWt 367 (by decide +kernel) (by decide +kernel))
set_option maxRecDepth 16384 in
theorem CKX11_cell {rm : Room} (q : ({ frames := 1, cells := 0, slots := 0, locals := 20 } : Room).frames + 1 ≤ rm.frames ∧ 8 + (3 + 11) + ({ frames := 1, cells := 0, slots := 0, locals := 20 } : Room).locals ≤ rm.locals) : CK rm yX11_cell cX11_cell 3 (some .int) ({ frames := 1, cells := 0, slots := 0, locals := 20 } : Room) 2 := ⟨(TWt 368 rfl (by decide +kernel)), (TWt 1 (by decide +kernel) (by decide +kernel)), ⟨by decide, by decide⟩, by decide +kernel, q.1, q.2⟩
theorem st_X11_cellSlot : Cond.static yX11_cellSlot ∈ TW := (TWt 1060 (by decide +kernel) (by decide +kernel))
set_option maxRecDepth 16384 in
theorem CKX11_cellSlot {rm : Room} (q : ({ frames := 1, cells := 0, slots := 0, locals := 20 } : Room).frames + 1 ≤ rm.frames ∧ 8 + (1 + 11) + ({ frames := 1, cells := 0, slots := 0, locals := 20 } : Room).locals ≤ rm.locals) : CK rm yX11_cellSlot cX11_cellSlot 1 (some .int) ({ frames := 1, cells := 0, slots := 0, locals := 20 } : Room) 1 := ⟨(TWt 1061 rfl (by decide +kernel)), (TWt 1 (by decide +kernel) (by decide +kernel)), ⟨by decide, by decide⟩, by decide +kernel, q.1, q.2⟩
theorem in_X11_change : Cond.instanceMethod yX11_change ∈ TW := (TWt 586 (by decide +kernel) (by decide +kernel))
theorem se_X11_change : Cond.selects yX11_change.cls yX11_change yX11_change ∈ TW := (TWt 587 (by decide +kernel) (by decide +kernel))
set_option maxRecDepth 16384 in
theorem CKX11_change {rm : Room} (q : ({ frames := 0, cells := 0, slots := 0, locals := 0 } : Room).frames + 1 ≤ rm.frames ∧ 8 + (3 + 11) + ({ frames := 0, cells := 0, slots := 0, locals := 0 } : Room).locals ≤ rm.locals) : CK rm yX11_change cX11_change 3 (some .int) ({ frames := 0, cells := 0, slots := 0, locals := 0 } : Room) 2 := ⟨(TWt 588 rfl (by decide +kernel)), (TWt 1 (by decide +kernel) (by decide +kernel)), ⟨by decide, by decide⟩, by decide +kernel, q.1, q.2⟩
theorem in_X11_clear : Cond.instanceMethod yX11_clear ∈ TW := (TWt 362 (by decide +kernel) (by decide +kernel))
theorem se_X11_clear : Cond.selects yX11_clear.cls yX11_clear yX11_clear ∈ TW := (TWt 363 (by decide +kernel) (by decide +kernel))
set_option maxRecDepth 16384 in
theorem CKX11_clear {rm : Room} (q : ({ frames := 1, cells := 0, slots := 0, locals := 20 } : Room).frames + 1 ≤ rm.frames ∧ 8 + (3 + 11) + ({ frames := 1, cells := 0, slots := 0, locals := 20 } : Room).locals ≤ rm.locals) : CK rm yX11_clear cX11_clear 3 (some .int) ({ frames := 1, cells := 0, slots := 0, locals := 20 } : Room) 1 := ⟨(TWt 364 rfl (by decide +kernel)), (TWt 1 (by decide +kernel) (by decide +kernel)), ⟨by decide, by decide⟩, by decide +kernel, q.1, q.2⟩
theorem in_X11_code : Cond.instanceMethod yX11_code ∈ TW := (TWt 351 (by decide +kernel) (by decide +kernel))
theorem se_X11_code : Cond.selects yX11_code.cls yX11_code yX11_code ∈ TW := (TWt 352 (by decide +kernel) (by decide +kernel))
set_option maxRecDepth 16384 in
theorem CKX11_code {rm : Room} (q : ({ frames := 1, cells := 0, slots := 0, locals := 22 } : Room).frames + 1 ≤ rm.frames ∧ 8 + (8 + 11) + ({ frames := 1, cells := 0, slots := 0, locals := 22 } : Room).locals ≤ rm.locals) : CK rm yX11_code cX11_code 8 (some .int) ({ frames := 1, cells := 0, slots := 0, locals := 22 } : Room) 5 := ⟨(TWt 353 rfl (by decide +kernel)), (TWt 1 (by decide +kernel) (by decide +kernel)), ⟨by decide, by decide⟩, by decide +kernel, q.1, q.2⟩
theorem in_X11_differ : Cond.instanceMethod yX11_differ ∈ TW := (TWt 727 (by decide +kernel) (by decide +kernel))
theorem se_X11_differ : Cond.selects yX11_differ.cls yX11_differ yX11_differ ∈ TW := (TWt 728 (by decide +kernel) (by decide +kernel))
set_option maxRecDepth 16384 in
theorem CKX11_differ {rm : Room} (q : ({ frames := 6, cells := 0, slots := 0, locals := 143 } : Room).frames + 1 ≤ rm.frames ∧ 8 + (3 + 11) + ({ frames := 6, cells := 0, slots := 0, locals := 143 } : Room).locals ≤ rm.locals) : CK rm yX11_differ cX11_differ 3 (some .int) ({ frames := 6, cells := 0, slots := 0, locals := 143 } : Room) 2 := ⟨(TWt 729 rfl (by decide +kernel)), (TWt 1 (by decide +kernel) (by decide +kernel)), ⟨by decide, by decide⟩, by decide +kernel, q.1, q.2⟩
theorem in_X11_ended : Cond.instanceMethod yX11_ended ∈ TW := (TWt 604 (by decide +kernel) (by decide +kernel))
theorem se_X11_ended : Cond.selects yX11_ended.cls yX11_ended yX11_ended ∈ TW := (TWt 605 (by decide +kernel) (by decide +kernel))
set_option maxRecDepth 16384 in
theorem CKX11_ended {rm : Room} (q : ({ frames := 0, cells := 0, slots := 0, locals := 0 } : Room).frames + 1 ≤ rm.frames ∧ 8 + (1 + 11) + ({ frames := 0, cells := 0, slots := 0, locals := 0 } : Room).locals ≤ rm.locals) : CK rm yX11_ended cX11_ended 1 (some .int) ({ frames := 0, cells := 0, slots := 0, locals := 0 } : Room) 0 := ⟨(TWt 606 rfl (by decide +kernel)), (TWt 1 (by decide +kernel) (by decide +kernel)), ⟨by decide, by decide⟩, by decide +kernel, q.1, q.2⟩
theorem in_X11_find : Cond.instanceMethod yX11_find ∈ TW := (TWt 736 (by decide +kernel) (by decide +kernel))
theorem se_X11_find : Cond.selects yX11_find.cls yX11_find yX11_find ∈ TW := (TWt 737 (by decide +kernel) (by decide +kernel))
set_option maxRecDepth 16384 in
theorem CKX11_find {rm : Room} (q : ({ frames := 7, cells := 0, slots := 0, locals := 164 } : Room).frames + 1 ≤ rm.frames ∧ 8 + (3 + 11) + ({ frames := 7, cells := 0, slots := 0, locals := 164 } : Room).locals ≤ rm.locals) : CK rm yX11_find cX11_find 3 (some .int) ({ frames := 7, cells := 0, slots := 0, locals := 164 } : Room) 2 := ⟨(TWt 738 rfl (by decide +kernel)), (TWt 1 (by decide +kernel) (by decide +kernel)), ⟨by decide, by decide⟩, by decide +kernel, q.1, q.2⟩
theorem st_X11_fits : Cond.static yX11_fits ∈ TW := (TWt 891 (by decide +kernel) (by decide +kernel))
set_option maxRecDepth 16384 in
theorem CKX11_fits {rm : Room} (q : ({ frames := 0, cells := 0, slots := 0, locals := 0 } : Room).frames + 1 ≤ rm.frames ∧ 8 + (3 + 11) + ({ frames := 0, cells := 0, slots := 0, locals := 0 } : Room).locals ≤ rm.locals) : CK rm yX11_fits cX11_fits 3 (some .boolean) ({ frames := 0, cells := 0, slots := 0, locals := 0 } : Room) 3 := ⟨(TWt 892 rfl (by decide +kernel)), (TWt 1 (by decide +kernel) (by decide +kernel)), ⟨by decide, by decide⟩, by decide +kernel, q.1, q.2⟩
theorem in_X11_found : Cond.instanceMethod yX11_found ∈ TW := (TWt 771 (by decide +kernel) (by decide +kernel))
theorem se_X11_found : Cond.selects yX11_found.cls yX11_found yX11_found ∈ TW := (TWt 772 (by decide +kernel) (by decide +kernel))
set_option maxRecDepth 16384 in
theorem CKX11_found {rm : Room} (q : ({ frames := 0, cells := 0, slots := 0, locals := 0 } : Room).frames + 1 ≤ rm.frames ∧ 8 + (3 + 11) + ({ frames := 0, cells := 0, slots := 0, locals := 0 } : Room).locals ≤ rm.locals) : CK rm yX11_found cX11_found 3 (some .int) ({ frames := 0, cells := 0, slots := 0, locals := 0 } : Room) 1 := ⟨(TWt 773 rfl (by decide +kernel)), (TWt 1 (by decide +kernel) (by decide +kernel)), ⟨by decide, by decide⟩, by decide +kernel, q.1, q.2⟩
theorem in_X11_freely : Cond.instanceMethod yX11_freely ∈ TW := (TWt 381 (by decide +kernel) (by decide +kernel))
theorem se_X11_freely : Cond.selects yX11_freely.cls yX11_freely yX11_freely ∈ TW := (TWt 382 (by decide +kernel) (by decide +kernel))
set_option maxRecDepth 16384 in
theorem CKX11_freely {rm : Room} (q : ({ frames := 0, cells := 0, slots := 0, locals := 0 } : Room).frames + 1 ≤ rm.frames ∧ 8 + (2 + 11) + ({ frames := 0, cells := 0, slots := 0, locals := 0 } : Room).locals ≤ rm.locals) : CK rm yX11_freely cX11_freely 2 (some .int) ({ frames := 0, cells := 0, slots := 0, locals := 0 } : Room) 0 := ⟨(TWt 383 rfl (by decide +kernel)), (TWt 1 (by decide +kernel) (by decide +kernel)), ⟨by decide, by decide⟩, by decide +kernel, q.1, q.2⟩
theorem in_X11_goByRecord : Cond.instanceMethod yX11_goByRecord ∈ TW := (TWt 599 (by decide +kernel) (by decide +kernel))
theorem se_X11_goByRecord : Cond.selects yX11_goByRecord.cls yX11_goByRecord yX11_goByRecord ∈ TW := (TWp 30 (by decide +kernel) (by decide +kernel))
set_option maxRecDepth 16384 in
theorem CKX11_goByRecord {rm : Room} (q : ({ frames := 4, cells := 0, slots := 0, locals := 98 } : Room).frames + 1 ≤ rm.frames ∧ 8 + (6 + 11) + ({ frames := 4, cells := 0, slots := 0, locals := 98 } : Room).locals ≤ rm.locals) : CK rm yX11_goByRecord cX11_goByRecord 6 (some .int) ({ frames := 4, cells := 0, slots := 0, locals := 98 } : Room) 1 := ⟨(TWt 600 rfl (by decide +kernel)), (TWt 1 (by decide +kernel) (by decide +kernel)), ⟨by decide, by decide⟩, by decide +kernel, q.1, q.2⟩
theorem in_X11_input : Cond.instanceMethod yX11_input ∈ TW := (TWt 373 (by decide +kernel) (by decide +kernel))
theorem se_X11_input : Cond.selects yX11_input.cls yX11_input yX11_input ∈ TW := (TWt 374 (by decide +kernel) (by decide +kernel))
set_option maxRecDepth 16384 in
theorem CKX11_input {rm : Room} (q : ({ frames := 0, cells := 0, slots := 0, locals := 0 } : Room).frames + 1 ≤ rm.frames ∧ 8 + (2 + 11) + ({ frames := 0, cells := 0, slots := 0, locals := 0 } : Room).locals ≤ rm.locals) : CK rm yX11_input cX11_input 2 (some .int) ({ frames := 0, cells := 0, slots := 0, locals := 0 } : Room) 1 := ⟨(TWt 375 rfl (by decide +kernel)), (TWt 1 (by decide +kernel) (by decide +kernel)), ⟨by decide, by decide⟩, by decide +kernel, q.1, q.2⟩
theorem st_X11_isCell : Cond.static yX11_isCell ∈ TW := (TWt 370 (by decide +kernel) (by decide +kernel))
set_option maxRecDepth 16384 in
theorem CKX11_isCell {rm : Room} (q : ({ frames := 0, cells := 0, slots := 0, locals := 0 } : Room).frames + 1 ≤ rm.frames ∧ 8 + (1 + 11) + ({ frames := 0, cells := 0, slots := 0, locals := 0 } : Room).locals ≤ rm.locals) : CK rm yX11_isCell cX11_isCell 1 (some .boolean) ({ frames := 0, cells := 0, slots := 0, locals := 0 } : Room) 1 := ⟨(TWt 371 rfl (by decide +kernel)), (TWt 1 (by decide +kernel) (by decide +kernel)), ⟨by decide, by decide⟩, by decide +kernel, q.1, q.2⟩
theorem in_X11_isMoment : Cond.instanceMethod yX11_isMoment ∈ TW := (TWt 613 (by decide +kernel) (by decide +kernel))
theorem se_X11_isMoment : Cond.selects yX11_isMoment.cls yX11_isMoment yX11_isMoment ∈ TW := (TWp 31 (by decide +kernel) (by decide +kernel))
set_option maxRecDepth 16384 in
theorem CKX11_isMoment {rm : Room} (q : ({ frames := 0, cells := 0, slots := 0, locals := 0 } : Room).frames + 1 ≤ rm.frames ∧ 8 + (2 + 11) + ({ frames := 0, cells := 0, slots := 0, locals := 0 } : Room).locals ≤ rm.locals) : CK rm yX11_isMoment cX11_isMoment 2 (some .boolean) ({ frames := 0, cells := 0, slots := 0, locals := 0 } : Room) 1 := ⟨(TWt 614 rfl (by decide +kernel)), (TWt 1 (by decide +kernel) (by decide +kernel)), ⟨by decide, by decide⟩, by decide +kernel, q.1, q.2⟩
theorem st_X11_isShelf : Cond.static yX11_isShelf ∈ TW := (TWt 779 (by decide +kernel) (by decide +kernel))
set_option maxRecDepth 16384 in
theorem CKX11_isShelf {rm : Room} (q : ({ frames := 0, cells := 0, slots := 0, locals := 0 } : Room).frames + 1 ≤ rm.frames ∧ 8 + (1 + 11) + ({ frames := 0, cells := 0, slots := 0, locals := 0 } : Room).locals ≤ rm.locals) : CK rm yX11_isShelf cX11_isShelf 1 (some .boolean) ({ frames := 0, cells := 0, slots := 0, locals := 0 } : Room) 1 := ⟨(TWt 780 rfl (by decide +kernel)), (TWt 1 (by decide +kernel) (by decide +kernel)), ⟨by decide, by decide⟩, by decide +kernel, q.1, q.2⟩
theorem st_X11_isThread : Cond.static yX11_isThread ∈ TW := (TWt 355 (by decide +kernel) (by decide +kernel))
set_option maxRecDepth 16384 in
theorem CKX11_isThread {rm : Room} (q : ({ frames := 0, cells := 0, slots := 0, locals := 0 } : Room).frames + 1 ≤ rm.frames ∧ 8 + (1 + 11) + ({ frames := 0, cells := 0, slots := 0, locals := 0 } : Room).locals ≤ rm.locals) : CK rm yX11_isThread cX11_isThread 1 (some .boolean) ({ frames := 0, cells := 0, slots := 0, locals := 0 } : Room) 1 := ⟨(TWt 356 rfl (by decide +kernel)), (TWt 1 (by decide +kernel) (by decide +kernel)), ⟨by decide, by decide⟩, by decide +kernel, q.1, q.2⟩
theorem in_X11_last : Cond.instanceMethod yX11_last ∈ TW := (TWt 645 (by decide +kernel) (by decide +kernel))
theorem se_X11_last : Cond.selects yX11_last.cls yX11_last yX11_last ∈ TW := (TWt 646 (by decide +kernel) (by decide +kernel))
set_option maxRecDepth 16384 in
theorem CKX11_last {rm : Room} (q : ({ frames := 1, cells := 0, slots := 0, locals := 23 } : Room).frames + 1 ≤ rm.frames ∧ 8 + (3 + 11) + ({ frames := 1, cells := 0, slots := 0, locals := 23 } : Room).locals ≤ rm.locals) : CK rm yX11_last cX11_last 3 (some .int) ({ frames := 1, cells := 0, slots := 0, locals := 23 } : Room) 2 := ⟨(TWt 647 rfl (by decide +kernel)), (TWt 1 (by decide +kernel) (by decide +kernel)), ⟨by decide, by decide⟩, by decide +kernel, q.1, q.2⟩
theorem st_X11_localSlot : Cond.static yX11_localSlot ∈ TW := (TWt 1063 (by decide +kernel) (by decide +kernel))
set_option maxRecDepth 16384 in
theorem CKX11_localSlot {rm : Room} (q : ({ frames := 1, cells := 0, slots := 0, locals := 20 } : Room).frames + 1 ≤ rm.frames ∧ 8 + (2 + 11) + ({ frames := 1, cells := 0, slots := 0, locals := 20 } : Room).locals ≤ rm.locals) : CK rm yX11_localSlot cX11_localSlot 2 (some .int) ({ frames := 1, cells := 0, slots := 0, locals := 20 } : Room) 2 := ⟨(TWt 1064 rfl (by decide +kernel)), (TWt 1 (by decide +kernel) (by decide +kernel)), ⟨by decide, by decide⟩, by decide +kernel, q.1, q.2⟩
theorem in_X11_next : Cond.instanceMethod yX11_next ∈ TW := (TWt 653 (by decide +kernel) (by decide +kernel))
theorem se_X11_next : Cond.selects yX11_next.cls yX11_next yX11_next ∈ TW := (TWt 654 (by decide +kernel) (by decide +kernel))
set_option maxRecDepth 16384 in
theorem CKX11_next {rm : Room} (q : ({ frames := 1, cells := 0, slots := 0, locals := 23 } : Room).frames + 1 ≤ rm.frames ∧ 8 + (3 + 11) + ({ frames := 1, cells := 0, slots := 0, locals := 23 } : Room).locals ≤ rm.locals) : CK rm yX11_next cX11_next 3 (some .int) ({ frames := 1, cells := 0, slots := 0, locals := 23 } : Room) 2 := ⟨(TWt 655 rfl (by decide +kernel)), (TWt 1 (by decide +kernel) (by decide +kernel)), ⟨by decide, by decide⟩, by decide +kernel, q.1, q.2⟩
theorem in_X11_play : Cond.instanceMethod yX11_play ∈ TW := (TWt 594 (by decide +kernel) (by decide +kernel))
theorem se_X11_play : Cond.selects yX11_play.cls yX11_play yX11_play ∈ TW := (TWt 595 (by decide +kernel) (by decide +kernel))
set_option maxRecDepth 16384 in
theorem CKX11_play {rm : Room} (q : ({ frames := 5, cells := 0, slots := 0, locals := 123 } : Room).frames + 1 ≤ rm.frames ∧ 8 + (3 + 11) + ({ frames := 5, cells := 0, slots := 0, locals := 123 } : Room).locals ≤ rm.locals) : CK rm yX11_play cX11_play 3 (some .int) ({ frames := 5, cells := 0, slots := 0, locals := 123 } : Room) 2 := ⟨(TWt 596 rfl (by decide +kernel)), (TWt 1 (by decide +kernel) (by decide +kernel)), ⟨by decide, by decide⟩, by decide +kernel, q.1, q.2⟩
theorem in_X11_race : Cond.instanceMethod yX11_race ∈ TW := (TWt 714 (by decide +kernel) (by decide +kernel))
theorem se_X11_race : Cond.selects yX11_race.cls yX11_race yX11_race ∈ TW := (TWt 715 (by decide +kernel) (by decide +kernel))
set_option maxRecDepth 16384 in
theorem CKX11_race {rm : Room} (q : ({ frames := 4, cells := 0, slots := 0, locals := 94 } : Room).frames + 1 ≤ rm.frames ∧ 8 + (4 + 11) + ({ frames := 4, cells := 0, slots := 0, locals := 94 } : Room).locals ≤ rm.locals) : CK rm yX11_race cX11_race 4 (some .int) ({ frames := 4, cells := 0, slots := 0, locals := 94 } : Room) 2 := ⟨(TWt 716 rfl (by decide +kernel)), (TWt 1 (by decide +kernel) (by decide +kernel)), ⟨by decide, by decide⟩, by decide +kernel, q.1, q.2⟩
theorem in_X11_replay : Cond.instanceMethod yX11_replay ∈ TW := (TWt 629 (by decide +kernel) (by decide +kernel))
theorem se_X11_replay : Cond.selects yX11_replay.cls yX11_replay yX11_replay ∈ TW := (TWp 33 (by decide +kernel) (by decide +kernel))
set_option maxRecDepth 16384 in
theorem CKX11_replay {rm : Room} (q : ({ frames := 4, cells := 0, slots := 0, locals := 98 } : Room).frames + 1 ≤ rm.frames ∧ 8 + (5 + 11) + ({ frames := 4, cells := 0, slots := 0, locals := 98 } : Room).locals ≤ rm.locals) : CK rm yX11_replay cX11_replay 5 none ({ frames := 4, cells := 0, slots := 0, locals := 98 } : Room) 3 := ⟨(TWt 630 rfl (by decide +kernel)), (TWt 1 (by decide +kernel) (by decide +kernel)), ⟨by decide, by decide⟩, by decide +kernel, q.1, q.2⟩
theorem in_X11_run : Cond.instanceMethod yX11_run ∈ TW := (TWt 385 (by decide +kernel) (by decide +kernel))
theorem se_X11_run : Cond.selects yX11_run.cls yX11_run yX11_run ∈ TW := (TWt 386 (by decide +kernel) (by decide +kernel))
set_option maxRecDepth 16384 in
theorem CKX11_run {rm : Room} (q : ({ frames := 7, cells := 0, slots := 0, locals := 169 } : Room).frames + 1 ≤ rm.frames ∧ 8 + (1 + 11) + ({ frames := 7, cells := 0, slots := 0, locals := 169 } : Room).locals ≤ rm.locals) : CK rm yX11_run cX11_run 1 (some .int) ({ frames := 7, cells := 0, slots := 0, locals := 169 } : Room) 0 := ⟨(TWt 387 rfl (by decide +kernel)), (TWt 1 (by decide +kernel) (by decide +kernel)), ⟨by decide, by decide⟩, by decide +kernel, q.1, q.2⟩
theorem in_X11_seenBehind : Cond.instanceMethod yX11_seenBehind ∈ TW := (TWt 625 (by decide +kernel) (by decide +kernel))
theorem se_X11_seenBehind : Cond.selects yX11_seenBehind.cls yX11_seenBehind yX11_seenBehind ∈ TW := (TWp 32 (by decide +kernel) (by decide +kernel))
set_option maxRecDepth 16384 in
theorem CKX11_seenBehind {rm : Room} (q : ({ frames := 5, cells := 0, slots := 0, locals := 122 } : Room).frames + 1 ≤ rm.frames ∧ 8 + (2 + 11) + ({ frames := 5, cells := 0, slots := 0, locals := 122 } : Room).locals ≤ rm.locals) : CK rm yX11_seenBehind cX11_seenBehind 2 (some (.object "ReplayBox$Machine")) ({ frames := 5, cells := 0, slots := 0, locals := 122 } : Room) 1 := ⟨(TWt 626 rfl (by decide +kernel)), (TWt 1 (by decide +kernel) (by decide +kernel)), ⟨by decide, by decide⟩, by decide +kernel, q.1, q.2⟩
theorem in_X11_step : Cond.instanceMethod yX11_step ∈ TW := (TWt 590 (by decide +kernel) (by decide +kernel))
theorem se_X11_step : Cond.selects yX11_step.cls yX11_step yX11_step ∈ TW := (TWt 591 (by decide +kernel) (by decide +kernel))
set_option maxRecDepth 16384 in
theorem CKX11_step {rm : Room} (q : ({ frames := 0, cells := 0, slots := 0, locals := 0 } : Room).frames + 1 ≤ rm.frames ∧ 8 + (3 + 11) + ({ frames := 0, cells := 0, slots := 0, locals := 0 } : Room).locals ≤ rm.locals) : CK rm yX11_step cX11_step 3 (some .int) ({ frames := 0, cells := 0, slots := 0, locals := 0 } : Room) 2 := ⟨(TWt 592 rfl (by decide +kernel)), (TWt 1 (by decide +kernel) (by decide +kernel)), ⟨by decide, by decide⟩, by decide +kernel, q.1, q.2⟩
theorem in_X11_thing : Cond.instanceMethod yX11_thing ∈ TW := (TWt 620 (by decide +kernel) (by decide +kernel))
theorem se_X11_thing : Cond.selects yX11_thing.cls yX11_thing yX11_thing ∈ TW := (TWt 621 (by decide +kernel) (by decide +kernel))
set_option maxRecDepth 16384 in
theorem CKX11_thing {rm : Room} (q : ({ frames := 6, cells := 0, slots := 0, locals := 143 } : Room).frames + 1 ≤ rm.frames ∧ 8 + (4 + 11) + ({ frames := 6, cells := 0, slots := 0, locals := 143 } : Room).locals ≤ rm.locals) : CK rm yX11_thing cX11_thing 4 (some .int) ({ frames := 6, cells := 0, slots := 0, locals := 143 } : Room) 2 := ⟨(TWt 622 rfl (by decide +kernel)), (TWt 1 (by decide +kernel) (by decide +kernel)), ⟨by decide, by decide⟩, by decide +kernel, q.1, q.2⟩
theorem in_X11_thread : Cond.instanceMethod yX11_thread ∈ TW := (TWt 636 (by decide +kernel) (by decide +kernel))
theorem se_X11_thread : Cond.selects yX11_thread.cls yX11_thread yX11_thread ∈ TW := (TWt 637 (by decide +kernel) (by decide +kernel))
set_option maxRecDepth 16384 in
theorem CKX11_thread {rm : Room} (q : ({ frames := 6, cells := 0, slots := 0, locals := 143 } : Room).frames + 1 ≤ rm.frames ∧ 8 + (4 + 11) + ({ frames := 6, cells := 0, slots := 0, locals := 143 } : Room).locals ≤ rm.locals) : CK rm yX11_thread cX11_thread 4 (some .int) ({ frames := 6, cells := 0, slots := 0, locals := 143 } : Room) 2 := ⟨(TWt 638 rfl (by decide +kernel)), (TWt 1 (by decide +kernel) (by decide +kernel)), ⟨by decide, by decide⟩, by decide +kernel, q.1, q.2⟩
theorem in_X11_to : Cond.instanceMethod yX11_to ∈ TW := (TWt 608 (by decide +kernel) (by decide +kernel))
theorem se_X11_to : Cond.selects yX11_to.cls yX11_to yX11_to ∈ TW := (TWt 609 (by decide +kernel) (by decide +kernel))
set_option maxRecDepth 16384 in
theorem CKX11_to {rm : Room} (q : ({ frames := 1, cells := 0, slots := 0, locals := 21 } : Room).frames + 1 ≤ rm.frames ∧ 8 + (2 + 11) + ({ frames := 1, cells := 0, slots := 0, locals := 21 } : Room).locals ≤ rm.locals) : CK rm yX11_to cX11_to 2 (some .int) ({ frames := 1, cells := 0, slots := 0, locals := 21 } : Room) 1 := ⟨(TWt 610 rfl (by decide +kernel)), (TWt 1 (by decide +kernel) (by decide +kernel)), ⟨by decide, by decide⟩, by decide +kernel, q.1, q.2⟩
theorem in_X11_told : Cond.instanceMethod yX11_told ∈ TW := (TWt 581 (by decide +kernel) (by decide +kernel))
theorem se_X11_told : Cond.selects yX11_told.cls yX11_told yX11_told ∈ TW := (TWt 582 (by decide +kernel) (by decide +kernel))
set_option maxRecDepth 16384 in
theorem CKX11_told {rm : Room} (q : ({ frames := 1, cells := 0, slots := 0, locals := 20 } : Room).frames + 1 ≤ rm.frames ∧ 8 + (2 + 11) + ({ frames := 1, cells := 0, slots := 0, locals := 20 } : Room).locals ≤ rm.locals) : CK rm yX11_told cX11_told 2 (some .int) ({ frames := 1, cells := 0, slots := 0, locals := 20 } : Room) 1 := ⟨(TWt 583 rfl (by decide +kernel)), (TWt 1 (by decide +kernel) (by decide +kernel)), ⟨by decide, by decide⟩, by decide +kernel, q.1, q.2⟩
theorem in_X11_turn : Cond.instanceMethod yX11_turn ∈ TW := (TWt 377 (by decide +kernel) (by decide +kernel))
theorem se_X11_turn : Cond.selects yX11_turn.cls yX11_turn yX11_turn ∈ TW := (TWt 378 (by decide +kernel) (by decide +kernel))
set_option maxRecDepth 16384 in
theorem CKX11_turn {rm : Room} (q : ({ frames := 1, cells := 0, slots := 0, locals := 20 } : Room).frames + 1 ≤ rm.frames ∧ 8 + (3 + 11) + ({ frames := 1, cells := 0, slots := 0, locals := 20 } : Room).locals ≤ rm.locals) : CK rm yX11_turn cX11_turn 3 (some .int) ({ frames := 1, cells := 0, slots := 0, locals := 20 } : Room) 2 := ⟨(TWt 379 rfl (by decide +kernel)), (TWt 1 (by decide +kernel) (by decide +kernel)), ⟨by decide, by decide⟩, by decide +kernel, q.1, q.2⟩
theorem in_X11_when : Cond.instanceMethod yX11_when ∈ TW := (TWt 661 (by decide +kernel) (by decide +kernel))
theorem se_X11_when : Cond.selects yX11_when.cls yX11_when yX11_when ∈ TW := (TWt 662 (by decide +kernel) (by decide +kernel))
set_option maxRecDepth 16384 in
theorem CKX11_when {rm : Room} (q : ({ frames := 2, cells := 0, slots := 0, locals := 53 } : Room).frames + 1 ≤ rm.frames ∧ 8 + (5 + 11) + ({ frames := 2, cells := 0, slots := 0, locals := 53 } : Room).locals ≤ rm.locals) : CK rm yX11_when cX11_when 5 (some .int) ({ frames := 2, cells := 0, slots := 0, locals := 53 } : Room) 4 := ⟨(TWt 663 rfl (by decide +kernel)), (TWt 1 (by decide +kernel) (by decide +kernel)), ⟨by decide, by decide⟩, by decide +kernel, q.1, q.2⟩
theorem in_X3_allStartedHaveEnded : Cond.instanceMethod yX3_allStartedHaveEnded ∈ TW := (TWt 573 (by decide +kernel) (by decide +kernel))
theorem se_X3_allStartedHaveEnded : Cond.selects yX3_allStartedHaveEnded.cls yX3_allStartedHaveEnded yX3_allStartedHaveEnded ∈ TW := (TWt 574 (by decide +kernel) (by decide +kernel))
set_option maxRecDepth 16384 in
theorem CKX3_allStartedHaveEnded {rm : Room} (q : ({ frames := 2, cells := 0, slots := 0, locals := 43 } : Room).frames + 1 ≤ rm.frames ∧ 8 + (2 + 11) + ({ frames := 2, cells := 0, slots := 0, locals := 43 } : Room).locals ≤ rm.locals) : CK rm yX3_allStartedHaveEnded cX3_allStartedHaveEnded 2 (some .boolean) ({ frames := 2, cells := 0, slots := 0, locals := 43 } : Room) 0 := ⟨(TWt 575 rfl (by decide +kernel)), (TWt 3 (by decide +kernel) (by decide +kernel)), ⟨by decide, by decide⟩, by decide +kernel, q.1, q.2⟩
theorem in_X3_begin : Cond.instanceMethod yX3_begin ∈ TW := (TWt 396 (by decide +kernel) (by decide +kernel))
theorem se_X3_begin : Cond.selects yX3_begin.cls yX3_begin yX3_begin ∈ TW := (TWt 397 (by decide +kernel) (by decide +kernel))
set_option maxRecDepth 16384 in
theorem CKX3_begin {rm : Room} (q : ({ frames := 1, cells := 0, slots := 0, locals := 26 } : Room).frames + 1 ≤ rm.frames ∧ 8 + (3 + 11) + ({ frames := 1, cells := 0, slots := 0, locals := 26 } : Room).locals ≤ rm.locals) : CK rm yX3_begin cX3_begin 3 none ({ frames := 1, cells := 0, slots := 0, locals := 26 } : Room) 2 := ⟨(TWt 398 rfl (by decide +kernel)), (TWt 3 (by decide +kernel) (by decide +kernel)), ⟨by decide, by decide⟩, by decide +kernel, q.1, q.2⟩
theorem in_X3_bothNumbers : Cond.instanceMethod yX3_bothNumbers ∈ TW := (TWt 476 (by decide +kernel) (by decide +kernel))
theorem se_X3_bothNumbers : Cond.selects yX3_bothNumbers.cls yX3_bothNumbers yX3_bothNumbers ∈ TW := (TWp 10 (by decide +kernel) (by decide +kernel))
set_option maxRecDepth 16384 in
theorem CKX3_bothNumbers {rm : Room} (q : ({ frames := 0, cells := 0, slots := 0, locals := 0 } : Room).frames + 1 ≤ rm.frames ∧ 8 + (3 + 11) + ({ frames := 0, cells := 0, slots := 0, locals := 0 } : Room).locals ≤ rm.locals) : CK rm yX3_bothNumbers cX3_bothNumbers 3 (some .boolean) ({ frames := 0, cells := 0, slots := 0, locals := 0 } : Room) 2 := ⟨(TWt 477 rfl (by decide +kernel)), (TWt 3 (by decide +kernel) (by decide +kernel)), ⟨by decide, by decide⟩, by decide +kernel, q.1, q.2⟩
theorem in_X3_canGo : Cond.instanceMethod yX3_canGo ∈ TW := (TWt 432 (by decide +kernel) (by decide +kernel))
theorem se_X3_canGo : Cond.selects yX3_canGo.cls yX3_canGo yX3_canGo ∈ TW := (TWt 433 (by decide +kernel) (by decide +kernel))
set_option maxRecDepth 16384 in
theorem CKX3_canGo {rm : Room} (q : ({ frames := 2, cells := 0, slots := 0, locals := 43 } : Room).frames + 1 ≤ rm.frames ∧ 8 + (4 + 11) + ({ frames := 2, cells := 0, slots := 0, locals := 43 } : Room).locals ≤ rm.locals) : CK rm yX3_canGo cX3_canGo 4 (some .boolean) ({ frames := 2, cells := 0, slots := 0, locals := 43 } : Room) 1 := ⟨(TWt 434 rfl (by decide +kernel)), (TWt 3 (by decide +kernel) (by decide +kernel)), ⟨by decide, by decide⟩, by decide +kernel, q.1, q.2⟩
theorem in_X3_differences : Cond.instanceMethod yX3_differences ∈ TW := (TWt 731 (by decide +kernel) (by decide +kernel))
theorem se_X3_differences : Cond.selects yX3_differences.cls yX3_differences yX3_differences ∈ TW := (TWt 732 (by decide +kernel) (by decide +kernel))
set_option maxRecDepth 16384 in
theorem CKX3_differences {rm : Room} (q : ({ frames := 3, cells := 0, slots := 0, locals := 64 } : Room).frames + 1 ≤ rm.frames ∧ 8 + (4 + 11) + ({ frames := 3, cells := 0, slots := 0, locals := 64 } : Room).locals ≤ rm.locals) : CK rm yX3_differences cX3_differences 4 (some .int) ({ frames := 3, cells := 0, slots := 0, locals := 64 } : Room) 1 := ⟨(TWt 733 rfl (by decide +kernel)), (TWt 3 (by decide +kernel) (by decide +kernel)), ⟨by decide, by decide⟩, by decide +kernel, q.1, q.2⟩
theorem in_X3_free : Cond.instanceMethod yX3_free ∈ TW := (TWt 520 (by decide +kernel) (by decide +kernel))
theorem se_X3_free : Cond.selects yX3_free.cls yX3_free yX3_free ∈ TW := (TWp 20 (by decide +kernel) (by decide +kernel))
set_option maxRecDepth 16384 in
theorem CKX3_free {rm : Room} (q : ({ frames := 0, cells := 0, slots := 0, locals := 0 } : Room).frames + 1 ≤ rm.frames ∧ 8 + (2 + 11) + ({ frames := 0, cells := 0, slots := 0, locals := 0 } : Room).locals ≤ rm.locals) : CK rm yX3_free cX3_free 2 (some .int) ({ frames := 0, cells := 0, slots := 0, locals := 0 } : Room) 1 := ⟨(TWt 521 rfl (by decide +kernel)), (TWt 3 (by decide +kernel) (by decide +kernel)), ⟨by decide, by decide⟩, by decide +kernel, q.1, q.2⟩
theorem in_X3_gateIn : Cond.instanceMethod yX3_gateIn ∈ TW := (TWt 528 (by decide +kernel) (by decide +kernel))
theorem se_X3_gateIn : Cond.selects yX3_gateIn.cls yX3_gateIn yX3_gateIn ∈ TW := (TWp 22 (by decide +kernel) (by decide +kernel))
set_option maxRecDepth 16384 in
theorem CKX3_gateIn {rm : Room} (q : ({ frames := 0, cells := 0, slots := 0, locals := 0 } : Room).frames + 1 ≤ rm.frames ∧ 8 + (2 + 11) + ({ frames := 0, cells := 0, slots := 0, locals := 0 } : Room).locals ≤ rm.locals) : CK rm yX3_gateIn cX3_gateIn 2 (some .int) ({ frames := 0, cells := 0, slots := 0, locals := 0 } : Room) 1 := ⟨(TWt 529 rfl (by decide +kernel)), (TWt 3 (by decide +kernel) (by decide +kernel)), ⟨by decide, by decide⟩, by decide +kernel, q.1, q.2⟩
theorem in_X3_getCell : Cond.instanceMethod yX3_getCell ∈ TW := (TWt 464 (by decide +kernel) (by decide +kernel))
theorem se_X3_getCell : Cond.selects yX3_getCell.cls yX3_getCell yX3_getCell ∈ TW := (TWp 7 (by decide +kernel) (by decide +kernel))
set_option maxRecDepth 16384 in
theorem CKX3_getCell {rm : Room} (q : ({ frames := 1, cells := 0, slots := 0, locals := 23 } : Room).frames + 1 ≤ rm.frames ∧ 8 + (3 + 11) + ({ frames := 1, cells := 0, slots := 0, locals := 23 } : Room).locals ≤ rm.locals) : CK rm yX3_getCell cX3_getCell 3 (some .int) ({ frames := 1, cells := 0, slots := 0, locals := 23 } : Room) 2 := ⟨(TWt 465 rfl (by decide +kernel)), (TWt 3 (by decide +kernel) (by decide +kernel)), ⟨by decide, by decide⟩, by decide +kernel, q.1, q.2⟩
theorem in_X3_go : Cond.instanceMethod yX3_go ∈ TW := (TWt 428 (by decide +kernel) (by decide +kernel))
theorem se_X3_go : Cond.selects yX3_go.cls yX3_go yX3_go ∈ TW := (TWt 429 (by decide +kernel) (by decide +kernel))
set_option maxRecDepth 16384 in
theorem CKX3_go {rm : Room} (q : ({ frames := 3, cells := 0, slots := 0, locals := 76 } : Room).frames + 1 ≤ rm.frames ∧ 8 + (3 + 11) + ({ frames := 3, cells := 0, slots := 0, locals := 76 } : Room).locals ≤ rm.locals) : CK rm yX3_go cX3_go 3 (some .int) ({ frames := 3, cells := 0, slots := 0, locals := 76 } : Room) 1 := ⟨(TWt 430 rfl (by decide +kernel)), (TWt 3 (by decide +kernel) (by decide +kernel)), ⟨by decide, by decide⟩, by decide +kernel, q.1, q.2⟩
theorem in_X3_goTo : Cond.instanceMethod yX3_goTo ∈ TW := (TWt 480 (by decide +kernel) (by decide +kernel))
theorem se_X3_goTo : Cond.selects yX3_goTo.cls yX3_goTo yX3_goTo ∈ TW := (TWp 11 (by decide +kernel) (by decide +kernel))
set_option maxRecDepth 16384 in
theorem CKX3_goTo {rm : Room} (q : ({ frames := 0, cells := 0, slots := 0, locals := 0 } : Room).frames + 1 ≤ rm.frames ∧ 8 + (2 + 11) + ({ frames := 0, cells := 0, slots := 0, locals := 0 } : Room).locals ≤ rm.locals) : CK rm yX3_goTo cX3_goTo 2 (some .int) ({ frames := 0, cells := 0, slots := 0, locals := 0 } : Room) 1 := ⟨(TWt 481 rfl (by decide +kernel)), (TWt 3 (by decide +kernel) (by decide +kernel)), ⟨by decide, by decide⟩, by decide +kernel, q.1, q.2⟩
theorem in_X3_goUnless : Cond.instanceMethod yX3_goUnless ∈ TW := (TWt 484 (by decide +kernel) (by decide +kernel))
theorem se_X3_goUnless : Cond.selects yX3_goUnless.cls yX3_goUnless yX3_goUnless ∈ TW := (TWp 12 (by decide +kernel) (by decide +kernel))
set_option maxRecDepth 16384 in
theorem CKX3_goUnless {rm : Room} (q : ({ frames := 1, cells := 0, slots := 0, locals := 21 } : Room).frames + 1 ≤ rm.frames ∧ 8 + (3 + 11) + ({ frames := 1, cells := 0, slots := 0, locals := 21 } : Room).locals ≤ rm.locals) : CK rm yX3_goUnless cX3_goUnless 3 (some .int) ({ frames := 1, cells := 0, slots := 0, locals := 21 } : Room) 2 := ⟨(TWt 485 rfl (by decide +kernel)), (TWt 3 (by decide +kernel) (by decide +kernel)), ⟨by decide, by decide⟩, by decide +kernel, q.1, q.2⟩
theorem in_X3_hasEnded : Cond.instanceMethod yX3_hasEnded ∈ TW := (TWt 420 (by decide +kernel) (by decide +kernel))
theorem se_X3_hasEnded : Cond.selects yX3_hasEnded.cls yX3_hasEnded yX3_hasEnded ∈ TW := (TWt 421 (by decide +kernel) (by decide +kernel))
set_option maxRecDepth 16384 in
theorem CKX3_hasEnded {rm : Room} (q : ({ frames := 1, cells := 0, slots := 0, locals := 22 } : Room).frames + 1 ≤ rm.frames ∧ 8 + (2 + 11) + ({ frames := 1, cells := 0, slots := 0, locals := 22 } : Room).locals ≤ rm.locals) : CK rm yX3_hasEnded cX3_hasEnded 2 (some .boolean) ({ frames := 1, cells := 0, slots := 0, locals := 22 } : Room) 1 := ⟨(TWt 422 rfl (by decide +kernel)), (TWt 3 (by decide +kernel) (by decide +kernel)), ⟨by decide, by decide⟩, by decide +kernel, q.1, q.2⟩
theorem in_X3_hasRowPlace : Cond.instanceMethod yX3_hasRowPlace ∈ TW := (TWt 499 (by decide +kernel) (by decide +kernel))
theorem se_X3_hasRowPlace : Cond.selects yX3_hasRowPlace.cls yX3_hasRowPlace yX3_hasRowPlace ∈ TW := (TWt 500 (by decide +kernel) (by decide +kernel))
set_option maxRecDepth 16384 in
theorem CKX3_hasRowPlace {rm : Room} (q : ({ frames := 0, cells := 0, slots := 0, locals := 0 } : Room).frames + 1 ≤ rm.frames ∧ 8 + (3 + 11) + ({ frames := 0, cells := 0, slots := 0, locals := 0 } : Room).locals ≤ rm.locals) : CK rm yX3_hasRowPlace cX3_hasRowPlace 3 (some .boolean) ({ frames := 0, cells := 0, slots := 0, locals := 0 } : Room) 2 := ⟨(TWt 501 rfl (by decide +kernel)), (TWt 3 (by decide +kernel) (by decide +kernel)), ⟨by decide, by decide⟩, by decide +kernel, q.1, q.2⟩
theorem in_X3_hasThing : Cond.instanceMethod yX3_hasThing ∈ TW := (TWt 632 (by decide +kernel) (by decide +kernel))
theorem se_X3_hasThing : Cond.selects yX3_hasThing.cls yX3_hasThing yX3_hasThing ∈ TW := (TWt 633 (by decide +kernel) (by decide +kernel))
set_option maxRecDepth 16384 in
theorem CKX3_hasThing {rm : Room} (q : ({ frames := 0, cells := 0, slots := 0, locals := 0 } : Room).frames + 1 ≤ rm.frames ∧ 8 + (2 + 11) + ({ frames := 0, cells := 0, slots := 0, locals := 0 } : Room).locals ≤ rm.locals) : CK rm yX3_hasThing cX3_hasThing 2 (some .boolean) ({ frames := 0, cells := 0, slots := 0, locals := 0 } : Room) 1 := ⟨(TWt 634 rfl (by decide +kernel)), (TWt 3 (by decide +kernel) (by decide +kernel)), ⟨by decide, by decide⟩, by decide +kernel, q.1, q.2⟩
theorem in_X3_hold : Cond.instanceMethod yX3_hold ∈ TW := (TWt 460 (by decide +kernel) (by decide +kernel))
theorem se_X3_hold : Cond.selects yX3_hold.cls yX3_hold yX3_hold ∈ TW := (TWp 6 (by decide +kernel) (by decide +kernel))
set_option maxRecDepth 16384 in
theorem CKX3_hold {rm : Room} (q : ({ frames := 0, cells := 0, slots := 0, locals := 0 } : Room).frames + 1 ≤ rm.frames ∧ 8 + (4 + 11) + ({ frames := 0, cells := 0, slots := 0, locals := 0 } : Room).locals ≤ rm.locals) : CK rm yX3_hold cX3_hold 4 (some .int) ({ frames := 0, cells := 0, slots := 0, locals := 0 } : Room) 3 := ⟨(TWt 461 rfl (by decide +kernel)), (TWt 3 (by decide +kernel) (by decide +kernel)), ⟨by decide, by decide⟩, by decide +kernel, q.1, q.2⟩
theorem in_X3_leaveLock : Cond.instanceMethod yX3_leaveLock ∈ TW := (TWt 516 (by decide +kernel) (by decide +kernel))
theorem se_X3_leaveLock : Cond.selects yX3_leaveLock.cls yX3_leaveLock yX3_leaveLock ∈ TW := (TWp 19 (by decide +kernel) (by decide +kernel))
set_option maxRecDepth 16384 in
theorem CKX3_leaveLock {rm : Room} (q : ({ frames := 1, cells := 0, slots := 0, locals := 21 } : Room).frames + 1 ≤ rm.frames ∧ 8 + (4 + 11) + ({ frames := 1, cells := 0, slots := 0, locals := 21 } : Room).locals ≤ rm.locals) : CK rm yX3_leaveLock cX3_leaveLock 4 (some .int) ({ frames := 1, cells := 0, slots := 0, locals := 21 } : Room) 2 := ⟨(TWt 517 rfl (by decide +kernel)), (TWt 3 (by decide +kernel) (by decide +kernel)), ⟨by decide, by decide⟩, by decide +kernel, q.1, q.2⟩
theorem in_X3_lieDown : Cond.instanceMethod yX3_lieDown ∈ TW := (TWt 524 (by decide +kernel) (by decide +kernel))
theorem se_X3_lieDown : Cond.selects yX3_lieDown.cls yX3_lieDown yX3_lieDown ∈ TW := (TWp 21 (by decide +kernel) (by decide +kernel))
set_option maxRecDepth 16384 in
theorem CKX3_lieDown {rm : Room} (q : ({ frames := 1, cells := 0, slots := 0, locals := 21 } : Room).frames + 1 ≤ rm.frames ∧ 8 + (4 + 11) + ({ frames := 1, cells := 0, slots := 0, locals := 21 } : Room).locals ≤ rm.locals) : CK rm yX3_lieDown cX3_lieDown 4 (some .int) ({ frames := 1, cells := 0, slots := 0, locals := 21 } : Room) 2 := ⟨(TWt 525 rfl (by decide +kernel)), (TWt 3 (by decide +kernel) (by decide +kernel)), ⟨by decide, by decide⟩, by decide +kernel, q.1, q.2⟩
theorem in_X3_lockIn : Cond.instanceMethod yX3_lockIn ∈ TW := (TWt 444 (by decide +kernel) (by decide +kernel))
theorem se_X3_lockIn : Cond.selects yX3_lockIn.cls yX3_lockIn yX3_lockIn ∈ TW := (TWp 2 (by decide +kernel) (by decide +kernel))
set_option maxRecDepth 16384 in
theorem CKX3_lockIn {rm : Room} (q : ({ frames := 0, cells := 0, slots := 0, locals := 0 } : Room).frames + 1 ≤ rm.frames ∧ 8 + (2 + 11) + ({ frames := 0, cells := 0, slots := 0, locals := 0 } : Room).locals ≤ rm.locals) : CK rm yX3_lockIn cX3_lockIn 2 (some .int) ({ frames := 0, cells := 0, slots := 0, locals := 0 } : Room) 1 := ⟨(TWt 445 rfl (by decide +kernel)), (TWt 3 (by decide +kernel) (by decide +kernel)), ⟨by decide, by decide⟩, by decide +kernel, q.1, q.2⟩
theorem in_X3_makeLock : Cond.instanceMethod yX3_makeLock ∈ TW := (TWt 508 (by decide +kernel) (by decide +kernel))
theorem se_X3_makeLock : Cond.selects yX3_makeLock.cls yX3_makeLock yX3_makeLock ∈ TW := (TWp 17 (by decide +kernel) (by decide +kernel))
set_option maxRecDepth 16384 in
theorem CKX3_makeLock {rm : Room} (q : ({ frames := 1, cells := 0, slots := 0, locals := 24 } : Room).frames + 1 ≤ rm.frames ∧ 8 + (3 + 11) + ({ frames := 1, cells := 0, slots := 0, locals := 24 } : Room).locals ≤ rm.locals) : CK rm yX3_makeLock cX3_makeLock 3 (some .int) ({ frames := 1, cells := 0, slots := 0, locals := 24 } : Room) 2 := ⟨(TWt 509 rfl (by decide +kernel)), (TWt 3 (by decide +kernel) (by decide +kernel)), ⟨by decide, by decide⟩, by decide +kernel, q.1, q.2⟩
theorem in_X3_makeRow : Cond.instanceMethod yX3_makeRow ∈ TW := (TWt 488 (by decide +kernel) (by decide +kernel))
theorem se_X3_makeRow : Cond.selects yX3_makeRow.cls yX3_makeRow yX3_makeRow ∈ TW := (TWp 13 (by decide +kernel) (by decide +kernel))
set_option maxRecDepth 16384 in
theorem CKX3_makeRow {rm : Room} (q : ({ frames := 1, cells := 0, slots := 0, locals := 24 } : Room).frames + 1 ≤ rm.frames ∧ 8 + (5 + 11) + ({ frames := 1, cells := 0, slots := 0, locals := 24 } : Room).locals ≤ rm.locals) : CK rm yX3_makeRow cX3_makeRow 5 (some .int) ({ frames := 1, cells := 0, slots := 0, locals := 24 } : Room) 2 := ⟨(TWt 489 rfl (by decide +kernel)), (TWt 3 (by decide +kernel) (by decide +kernel)), ⟨by decide, by decide⟩, by decide +kernel, q.1, q.2⟩
theorem in_X3_makeThing : Cond.instanceMethod yX3_makeThing ∈ TW := (TWt 492 (by decide +kernel) (by decide +kernel))
theorem se_X3_makeThing : Cond.selects yX3_makeThing.cls yX3_makeThing yX3_makeThing ∈ TW := (TWp 14 (by decide +kernel) (by decide +kernel))
set_option maxRecDepth 16384 in
theorem CKX3_makeThing {rm : Room} (q : ({ frames := 0, cells := 0, slots := 0, locals := 0 } : Room).frames + 1 ≤ rm.frames ∧ 8 + (5 + 11) + ({ frames := 0, cells := 0, slots := 0, locals := 0 } : Room).locals ≤ rm.locals) : CK rm yX3_makeThing cX3_makeThing 5 (some .int) ({ frames := 0, cells := 0, slots := 0, locals := 0 } : Room) 3 := ⟨(TWt 493 rfl (by decide +kernel)), (TWt 3 (by decide +kernel) (by decide +kernel)), ⟨by decide, by decide⟩, by decide +kernel, q.1, q.2⟩
theorem in_X3_nextInstruction : Cond.instanceMethod yX3_nextInstruction ∈ TW := (TWt 416 (by decide +kernel) (by decide +kernel))
theorem se_X3_nextInstruction : Cond.selects yX3_nextInstruction.cls yX3_nextInstruction yX3_nextInstruction ∈ TW := (TWt 417 (by decide +kernel) (by decide +kernel))
set_option maxRecDepth 16384 in
theorem CKX3_nextInstruction {rm : Room} (q : ({ frames := 2, cells := 0, slots := 0, locals := 43 } : Room).frames + 1 ≤ rm.frames ∧ 8 + (2 + 11) + ({ frames := 2, cells := 0, slots := 0, locals := 43 } : Room).locals ≤ rm.locals) : CK rm yX3_nextInstruction cX3_nextInstruction 2 (some .int) ({ frames := 2, cells := 0, slots := 0, locals := 43 } : Room) 1 := ⟨(TWt 418 rfl (by decide +kernel)), (TWt 3 (by decide +kernel) (by decide +kernel)), ⟨by decide, by decide⟩, by decide +kernel, q.1, q.2⟩
theorem in_X3_own : Cond.instanceMethod yX3_own ∈ TW := (TWt 452 (by decide +kernel) (by decide +kernel))
theorem se_X3_own : Cond.selects yX3_own.cls yX3_own yX3_own ∈ TW := (TWp 4 (by decide +kernel) (by decide +kernel))
set_option maxRecDepth 16384 in
theorem CKX3_own {rm : Room} (q : ({ frames := 0, cells := 0, slots := 0, locals := 0 } : Room).frames + 1 ≤ rm.frames ∧ 8 + (3 + 11) + ({ frames := 0, cells := 0, slots := 0, locals := 0 } : Room).locals ≤ rm.locals) : CK rm yX3_own cX3_own 3 (some .int) ({ frames := 0, cells := 0, slots := 0, locals := 0 } : Room) 2 := ⟨(TWt 453 rfl (by decide +kernel)), (TWt 3 (by decide +kernel) (by decide +kernel)), ⟨by decide, by decide⟩, by decide +kernel, q.1, q.2⟩
theorem in_X3_perform : Cond.instanceMethod yX3_perform ∈ TW := (TWt 456 (by decide +kernel) (by decide +kernel))
theorem se_X3_perform : Cond.selects yX3_perform.cls yX3_perform yX3_perform ∈ TW := (TWp 5 (by decide +kernel) (by decide +kernel))
set_option maxRecDepth 16384 in
theorem CKX3_perform {rm : Room} (q : ({ frames := 2, cells := 0, slots := 0, locals := 49 } : Room).frames + 1 ≤ rm.frames ∧ 8 + (8 + 11) + ({ frames := 2, cells := 0, slots := 0, locals := 49 } : Room).locals ≤ rm.locals) : CK rm yX3_perform cX3_perform 8 (some .int) ({ frames := 2, cells := 0, slots := 0, locals := 49 } : Room) 1 := ⟨(TWt 457 rfl (by decide +kernel)), (TWt 3 (by decide +kernel) (by decide +kernel)), ⟨by decide, by decide⟩, by decide +kernel, q.1, q.2⟩
theorem in_X3_putCell : Cond.instanceMethod yX3_putCell ∈ TW := (TWt 468 (by decide +kernel) (by decide +kernel))
theorem se_X3_putCell : Cond.selects yX3_putCell.cls yX3_putCell yX3_putCell ∈ TW := (TWp 8 (by decide +kernel) (by decide +kernel))
set_option maxRecDepth 16384 in
theorem CKX3_putCell {rm : Room} (q : ({ frames := 1, cells := 0, slots := 0, locals := 23 } : Room).frames + 1 ≤ rm.frames ∧ 8 + (3 + 11) + ({ frames := 1, cells := 0, slots := 0, locals := 23 } : Room).locals ≤ rm.locals) : CK rm yX3_putCell cX3_putCell 3 (some .int) ({ frames := 1, cells := 0, slots := 0, locals := 23 } : Room) 2 := ⟨(TWt 469 rfl (by decide +kernel)), (TWt 3 (by decide +kernel) (by decide +kernel)), ⟨by decide, by decide⟩, by decide +kernel, q.1, q.2⟩
theorem in_X3_readRow : Cond.instanceMethod yX3_readRow ∈ TW := (TWt 496 (by decide +kernel) (by decide +kernel))
theorem se_X3_readRow : Cond.selects yX3_readRow.cls yX3_readRow yX3_readRow ∈ TW := (TWp 15 (by decide +kernel) (by decide +kernel))
set_option maxRecDepth 16384 in
theorem CKX3_readRow {rm : Room} (q : ({ frames := 1, cells := 0, slots := 0, locals := 23 } : Room).frames + 1 ≤ rm.frames ∧ 8 + (6 + 11) + ({ frames := 1, cells := 0, slots := 0, locals := 23 } : Room).locals ≤ rm.locals) : CK rm yX3_readRow cX3_readRow 6 (some .int) ({ frames := 1, cells := 0, slots := 0, locals := 23 } : Room) 3 := ⟨(TWt 497 rfl (by decide +kernel)), (TWt 3 (by decide +kernel) (by decide +kernel)), ⟨by decide, by decide⟩, by decide +kernel, q.1, q.2⟩
theorem in_X3_reckon : Cond.instanceMethod yX3_reckon ∈ TW := (TWt 472 (by decide +kernel) (by decide +kernel))
theorem se_X3_reckon : Cond.selects yX3_reckon.cls yX3_reckon yX3_reckon ∈ TW := (TWp 9 (by decide +kernel) (by decide +kernel))
set_option maxRecDepth 16384 in
theorem CKX3_reckon {rm : Room} (q : ({ frames := 1, cells := 0, slots := 0, locals := 23 } : Room).frames + 1 ≤ rm.frames ∧ 8 + (7 + 11) + ({ frames := 1, cells := 0, slots := 0, locals := 23 } : Room).locals ≤ rm.locals) : CK rm yX3_reckon cX3_reckon 7 (some .int) ({ frames := 1, cells := 0, slots := 0, locals := 23 } : Room) 3 := ⟨(TWt 473 rfl (by decide +kernel)), (TWt 3 (by decide +kernel) (by decide +kernel)), ⟨by decide, by decide⟩, by decide +kernel, q.1, q.2⟩
theorem in_X3_rise : Cond.instanceMethod yX3_rise ∈ TW := (TWt 448 (by decide +kernel) (by decide +kernel))
theorem se_X3_rise : Cond.selects yX3_rise.cls yX3_rise yX3_rise ∈ TW := (TWp 3 (by decide +kernel) (by decide +kernel))
set_option maxRecDepth 16384 in
theorem CKX3_rise {rm : Room} (q : ({ frames := 1, cells := 0, slots := 0, locals := 22 } : Room).frames + 1 ≤ rm.frames ∧ 8 + (2 + 11) + ({ frames := 1, cells := 0, slots := 0, locals := 22 } : Room).locals ≤ rm.locals) : CK rm yX3_rise cX3_rise 2 (some .int) ({ frames := 1, cells := 0, slots := 0, locals := 22 } : Room) 1 := ⟨(TWt 449 rfl (by decide +kernel)), (TWt 3 (by decide +kernel) (by decide +kernel)), ⟨by decide, by decide⟩, by decide +kernel, q.1, q.2⟩
theorem in_X3_rivalsOf : Cond.instanceMethod yX3_rivalsOf ∈ TW := (TWt 750 (by decide +kernel) (by decide +kernel))
theorem se_X3_rivalsOf : Cond.selects yX3_rivalsOf.cls yX3_rivalsOf yX3_rivalsOf ∈ TW := (TWt 751 (by decide +kernel) (by decide +kernel))
set_option maxRecDepth 16384 in
theorem CKX3_rivalsOf {rm : Room} (q : ({ frames := 3, cells := 0, slots := 0, locals := 66 } : Room).frames + 1 ≤ rm.frames ∧ 8 + (4 + 11) + ({ frames := 3, cells := 0, slots := 0, locals := 66 } : Room).locals ≤ rm.locals) : CK rm yX3_rivalsOf cX3_rivalsOf 4 (some .int) ({ frames := 3, cells := 0, slots := 0, locals := 66 } : Room) 1 := ⟨(TWt 752 rfl (by decide +kernel)), (TWt 3 (by decide +kernel) (by decide +kernel)), ⟨by decide, by decide⟩, by decide +kernel, q.1, q.2⟩
theorem st_X3_slotOf : Cond.static yX3_slotOf ∈ TW := (TWt 437 (by decide +kernel) (by decide +kernel))
set_option maxRecDepth 16384 in
theorem CKX3_slotOf {rm : Room} (q : ({ frames := 1, cells := 0, slots := 0, locals := 22 } : Room).frames + 1 ≤ rm.frames ∧ 8 + (2 + 11) + ({ frames := 1, cells := 0, slots := 0, locals := 22 } : Room).locals ≤ rm.locals) : CK rm yX3_slotOf cX3_slotOf 2 (some .int) ({ frames := 1, cells := 0, slots := 0, locals := 22 } : Room) 2 := ⟨(TWt 438 rfl (by decide +kernel)), (TWt 3 (by decide +kernel) (by decide +kernel)), ⟨by decide, by decide⟩, by decide +kernel, q.1, q.2⟩
theorem in_X3_standing : Cond.instanceMethod yX3_standing ∈ TW := (TWt 641 (by decide +kernel) (by decide +kernel))
theorem se_X3_standing : Cond.selects yX3_standing.cls yX3_standing yX3_standing ∈ TW := (TWt 642 (by decide +kernel) (by decide +kernel))
set_option maxRecDepth 16384 in
theorem CKX3_standing {rm : Room} (q : ({ frames := 3, cells := 0, slots := 0, locals := 66 } : Room).frames + 1 ≤ rm.frames ∧ 8 + (2 + 11) + ({ frames := 3, cells := 0, slots := 0, locals := 66 } : Room).locals ≤ rm.locals) : CK rm yX3_standing cX3_standing 2 (some .int) ({ frames := 3, cells := 0, slots := 0, locals := 66 } : Room) 1 := ⟨(TWt 643 rfl (by decide +kernel)), (TWt 3 (by decide +kernel) (by decide +kernel)), ⟨by decide, by decide⟩, by decide +kernel, q.1, q.2⟩
theorem in_X3_startThread : Cond.instanceMethod yX3_startThread ∈ TW := (TWt 540 (by decide +kernel) (by decide +kernel))
theorem se_X3_startThread : Cond.selects yX3_startThread.cls yX3_startThread yX3_startThread ∈ TW := (TWp 25 (by decide +kernel) (by decide +kernel))
set_option maxRecDepth 16384 in
theorem CKX3_startThread {rm : Room} (q : ({ frames := 0, cells := 0, slots := 0, locals := 0 } : Room).frames + 1 ≤ rm.frames ∧ 8 + (2 + 11) + ({ frames := 0, cells := 0, slots := 0, locals := 0 } : Room).locals ≤ rm.locals) : CK rm yX3_startThread cX3_startThread 2 (some .int) ({ frames := 0, cells := 0, slots := 0, locals := 0 } : Room) 1 := ⟨(TWt 541 rfl (by decide +kernel)), (TWt 3 (by decide +kernel) (by decide +kernel)), ⟨by decide, by decide⟩, by decide +kernel, q.1, q.2⟩
theorem in_X3_takeInput : Cond.instanceMethod yX3_takeInput ∈ TW := (TWt 536 (by decide +kernel) (by decide +kernel))
theorem se_X3_takeInput : Cond.selects yX3_takeInput.cls yX3_takeInput yX3_takeInput ∈ TW := (TWp 24 (by decide +kernel) (by decide +kernel))
set_option maxRecDepth 16384 in
theorem CKX3_takeInput {rm : Room} (q : ({ frames := 1, cells := 0, slots := 0, locals := 23 } : Room).frames + 1 ≤ rm.frames ∧ 8 + (2 + 11) + ({ frames := 1, cells := 0, slots := 0, locals := 23 } : Room).locals ≤ rm.locals) : CK rm yX3_takeInput cX3_takeInput 2 (some .int) ({ frames := 1, cells := 0, slots := 0, locals := 23 } : Room) 1 := ⟨(TWt 537 rfl (by decide +kernel)), (TWt 3 (by decide +kernel) (by decide +kernel)), ⟨by decide, by decide⟩, by decide +kernel, q.1, q.2⟩
theorem in_X3_takeLock : Cond.instanceMethod yX3_takeLock ∈ TW := (TWt 512 (by decide +kernel) (by decide +kernel))
theorem se_X3_takeLock : Cond.selects yX3_takeLock.cls yX3_takeLock yX3_takeLock ∈ TW := (TWp 18 (by decide +kernel) (by decide +kernel))
set_option maxRecDepth 16384 in
theorem CKX3_takeLock {rm : Room} (q : ({ frames := 1, cells := 0, slots := 0, locals := 22 } : Room).frames + 1 ≤ rm.frames ∧ 8 + (4 + 11) + ({ frames := 1, cells := 0, slots := 0, locals := 22 } : Room).locals ≤ rm.locals) : CK rm yX3_takeLock cX3_takeLock 4 (some .int) ({ frames := 1, cells := 0, slots := 0, locals := 22 } : Room) 2 := ⟨(TWt 513 rfl (by decide +kernel)), (TWt 3 (by decide +kernel) (by decide +kernel)), ⟨by decide, by decide⟩, by decide +kernel, q.1, q.2⟩
theorem in_X3_wakeSleepers : Cond.instanceMethod yX3_wakeSleepers ∈ TW := (TWt 532 (by decide +kernel) (by decide +kernel))
theorem se_X3_wakeSleepers : Cond.selects yX3_wakeSleepers.cls yX3_wakeSleepers yX3_wakeSleepers ∈ TW := (TWp 23 (by decide +kernel) (by decide +kernel))
set_option maxRecDepth 16384 in
theorem CKX3_wakeSleepers {rm : Room} (q : ({ frames := 1, cells := 0, slots := 0, locals := 21 } : Room).frames + 1 ≤ rm.frames ∧ 8 + (5 + 11) + ({ frames := 1, cells := 0, slots := 0, locals := 21 } : Room).locals ≤ rm.locals) : CK rm yX3_wakeSleepers cX3_wakeSleepers 5 (some .int) ({ frames := 1, cells := 0, slots := 0, locals := 21 } : Room) 2 := ⟨(TWt 533 rfl (by decide +kernel)), (TWt 3 (by decide +kernel) (by decide +kernel)), ⟨by decide, by decide⟩, by decide +kernel, q.1, q.2⟩
theorem in_X3_whoGoes : Cond.instanceMethod yX3_whoGoes ∈ TW := (TWt 565 (by decide +kernel) (by decide +kernel))
theorem se_X3_whoGoes : Cond.selects yX3_whoGoes.cls yX3_whoGoes yX3_whoGoes ∈ TW := (TWt 566 (by decide +kernel) (by decide +kernel))
set_option maxRecDepth 16384 in
theorem CKX3_whoGoes {rm : Room} (q : ({ frames := 3, cells := 0, slots := 0, locals := 66 } : Room).frames + 1 ≤ rm.frames ∧ 8 + (3 + 11) + ({ frames := 3, cells := 0, slots := 0, locals := 66 } : Room).locals ≤ rm.locals) : CK rm yX3_whoGoes cX3_whoGoes 3 (some .int) ({ frames := 3, cells := 0, slots := 0, locals := 66 } : Room) 1 := ⟨(TWt 567 rfl (by decide +kernel)), (TWt 3 (by decide +kernel) (by decide +kernel)), ⟨by decide, by decide⟩, by decide +kernel, q.1, q.2⟩
theorem in_X3_writeRow : Cond.instanceMethod yX3_writeRow ∈ TW := (TWt 504 (by decide +kernel) (by decide +kernel))
theorem se_X3_writeRow : Cond.selects yX3_writeRow.cls yX3_writeRow yX3_writeRow ∈ TW := (TWp 16 (by decide +kernel) (by decide +kernel))
set_option maxRecDepth 16384 in
theorem CKX3_writeRow {rm : Room} (q : ({ frames := 1, cells := 0, slots := 0, locals := 22 } : Room).frames + 1 ≤ rm.frames ∧ 8 + (6 + 11) + ({ frames := 1, cells := 0, slots := 0, locals := 22 } : Room).locals ≤ rm.locals) : CK rm yX3_writeRow cX3_writeRow 6 (some .int) ({ frames := 1, cells := 0, slots := 0, locals := 22 } : Room) 3 := ⟨(TWt 505 rfl (by decide +kernel)), (TWt 3 (by decide +kernel) (by decide +kernel)), ⟨by decide, by decide⟩, by decide +kernel, q.1, q.2⟩
theorem in_X4_countRaces : Cond.instanceMethod yX4_countRaces ∈ TW := (TWt 698 (by decide +kernel) (by decide +kernel))
theorem se_X4_countRaces : Cond.selects yX4_countRaces.cls yX4_countRaces yX4_countRaces ∈ TW := (TWp 36 (by decide +kernel) (by decide +kernel))
set_option maxRecDepth 16384 in
theorem CKX4_countRaces {rm : Room} (q : ({ frames := 2, cells := 0, slots := 0, locals := 45 } : Room).frames + 1 ≤ rm.frames ∧ 8 + (4 + 11) + ({ frames := 2, cells := 0, slots := 0, locals := 45 } : Room).locals ≤ rm.locals) : CK rm yX4_countRaces cX4_countRaces 4 (some .int) ({ frames := 2, cells := 0, slots := 0, locals := 45 } : Room) 1 := ⟨(TWt 699 rfl (by decide +kernel)), (TWt 5 (by decide +kernel) (by decide +kernel)), ⟨by decide, by decide⟩, by decide +kernel, q.1, q.2⟩
theorem in_X4_earlierOf : Cond.instanceMethod yX4_earlierOf ∈ TW := (TWt 723 (by decide +kernel) (by decide +kernel))
theorem se_X4_earlierOf : Cond.selects yX4_earlierOf.cls yX4_earlierOf yX4_earlierOf ∈ TW := (TWt 724 (by decide +kernel) (by decide +kernel))
set_option maxRecDepth 16384 in
theorem CKX4_earlierOf {rm : Room} (q : ({ frames := 2, cells := 0, slots := 0, locals := 45 } : Room).frames + 1 ≤ rm.frames ∧ 8 + (5 + 11) + ({ frames := 2, cells := 0, slots := 0, locals := 45 } : Room).locals ≤ rm.locals) : CK rm yX4_earlierOf cX4_earlierOf 5 (some .int) ({ frames := 2, cells := 0, slots := 0, locals := 45 } : Room) 2 := ⟨(TWt 725 rfl (by decide +kernel)), (TWt 5 (by decide +kernel) (by decide +kernel)), ⟨by decide, by decide⟩, by decide +kernel, q.1, q.2⟩
theorem in_X4_forget : Cond.instanceMethod yX4_forget ∈ TW := (TWt 577 (by decide +kernel) (by decide +kernel))
theorem se_X4_forget : Cond.selects yX4_forget.cls yX4_forget yX4_forget ∈ TW := (TWt 578 (by decide +kernel) (by decide +kernel))
set_option maxRecDepth 16384 in
theorem CKX4_forget {rm : Room} (q : ({ frames := 0, cells := 0, slots := 0, locals := 0 } : Room).frames + 1 ≤ rm.frames ∧ 8 + (1 + 11) + ({ frames := 0, cells := 0, slots := 0, locals := 0 } : Room).locals ≤ rm.locals) : CK rm yX4_forget cX4_forget 1 none ({ frames := 0, cells := 0, slots := 0, locals := 0 } : Room) 0 := ⟨(TWt 579 rfl (by decide +kernel)), (TWt 5 (by decide +kernel) (by decide +kernel)), ⟨by decide, by decide⟩, by decide +kernel, q.1, q.2⟩
theorem in_X4_isAhead : Cond.instanceMethod yX4_isAhead ∈ TW := (TWt 709 (by decide +kernel) (by decide +kernel))
theorem se_X4_isAhead : Cond.selects yX4_isAhead.cls yX4_isAhead yX4_isAhead ∈ TW := (TWt 710 (by decide +kernel) (by decide +kernel))
set_option maxRecDepth 16384 in
theorem CKX4_isAhead {rm : Room} (q : ({ frames := 0, cells := 0, slots := 0, locals := 0 } : Room).frames + 1 ≤ rm.frames ∧ 8 + (3 + 11) + ({ frames := 0, cells := 0, slots := 0, locals := 0 } : Room).locals ≤ rm.locals) : CK rm yX4_isAhead cX4_isAhead 3 (some .boolean) ({ frames := 0, cells := 0, slots := 0, locals := 0 } : Room) 2 := ⟨(TWt 711 rfl (by decide +kernel)), (TWt 5 (by decide +kernel) (by decide +kernel)), ⟨by decide, by decide⟩, by decide +kernel, q.1, q.2⟩
theorem in_X4_isRace : Cond.instanceMethod yX4_isRace ∈ TW := (TWt 706 (by decide +kernel) (by decide +kernel))
theorem se_X4_isRace : Cond.selects yX4_isRace.cls yX4_isRace yX4_isRace ∈ TW := (TWp 37 (by decide +kernel) (by decide +kernel))
set_option maxRecDepth 16384 in
theorem CKX4_isRace {rm : Room} (q : ({ frames := 1, cells := 0, slots := 0, locals := 22 } : Room).frames + 1 ≤ rm.frames ∧ 8 + (4 + 11) + ({ frames := 1, cells := 0, slots := 0, locals := 22 } : Room).locals ≤ rm.locals) : CK rm yX4_isRace cX4_isRace 4 (some .boolean) ({ frames := 1, cells := 0, slots := 0, locals := 22 } : Room) 2 := ⟨(TWt 707 rfl (by decide +kernel)), (TWt 5 (by decide +kernel) (by decide +kernel)), ⟨by decide, by decide⟩, by decide +kernel, q.1, q.2⟩
theorem st_X4_join : Cond.static yX4_join ∈ TW := (TWt 690 (by decide +kernel) (by decide +kernel))
set_option maxRecDepth 16384 in
theorem CKX4_join {rm : Room} (q : ({ frames := 1, cells := 0, slots := 0, locals := 26 } : Room).frames + 1 ≤ rm.frames ∧ 8 + (5 + 11) + ({ frames := 1, cells := 0, slots := 0, locals := 26 } : Room).locals ≤ rm.locals) : CK rm yX4_join cX4_join 5 none ({ frames := 1, cells := 0, slots := 0, locals := 26 } : Room) 4 := ⟨(TWt 691 rfl (by decide +kernel)), (TWt 5 (by decide +kernel) (by decide +kernel)), ⟨by decide, by decide⟩, by decide +kernel, q.1, q.2⟩
theorem in_X4_laterOf : Cond.instanceMethod yX4_laterOf ∈ TW := (TWt 718 (by decide +kernel) (by decide +kernel))
theorem se_X4_laterOf : Cond.selects yX4_laterOf.cls yX4_laterOf yX4_laterOf ∈ TW := (TWt 719 (by decide +kernel) (by decide +kernel))
set_option maxRecDepth 16384 in
theorem CKX4_laterOf {rm : Room} (q : ({ frames := 0, cells := 0, slots := 0, locals := 0 } : Room).frames + 1 ≤ rm.frames ∧ 8 + (4 + 11) + ({ frames := 0, cells := 0, slots := 0, locals := 0 } : Room).locals ≤ rm.locals) : CK rm yX4_laterOf cX4_laterOf 4 (some .int) ({ frames := 0, cells := 0, slots := 0, locals := 0 } : Room) 1 := ⟨(TWt 720 rfl (by decide +kernel)), (TWt 5 (by decide +kernel) (by decide +kernel)), ⟨by decide, by decide⟩, by decide +kernel, q.1, q.2⟩
theorem in_X4_learn : Cond.instanceMethod yX4_learn ∈ TW := (TWt 687 (by decide +kernel) (by decide +kernel))
theorem se_X4_learn : Cond.selects yX4_learn.cls yX4_learn yX4_learn ∈ TW := (TWp 35 (by decide +kernel) (by decide +kernel))
set_option maxRecDepth 16384 in
theorem CKX4_learn {rm : Room} (q : ({ frames := 2, cells := 0, slots := 0, locals := 50 } : Room).frames + 1 ≤ rm.frames ∧ 8 + (4 + 11) + ({ frames := 2, cells := 0, slots := 0, locals := 50 } : Room).locals ≤ rm.locals) : CK rm yX4_learn cX4_learn 4 none ({ frames := 2, cells := 0, slots := 0, locals := 50 } : Room) 1 := ⟨(TWt 688 rfl (by decide +kernel)), (TWt 5 (by decide +kernel) (by decide +kernel)), ⟨by decide, by decide⟩, by decide +kernel, q.1, q.2⟩
theorem in_X4_prepare : Cond.instanceMethod yX4_prepare ∈ TW := (TWt 681 (by decide +kernel) (by decide +kernel))
theorem se_X4_prepare : Cond.selects yX4_prepare.cls yX4_prepare yX4_prepare ∈ TW := (TWt 682 (by decide +kernel) (by decide +kernel))
set_option maxRecDepth 16384 in
theorem CKX4_prepare {rm : Room} (q : ({ frames := 3, cells := 0, slots := 0, locals := 73 } : Room).frames + 1 ≤ rm.frames ∧ 8 + (2 + 11) + ({ frames := 3, cells := 0, slots := 0, locals := 73 } : Room).locals ≤ rm.locals) : CK rm yX4_prepare cX4_prepare 2 none ({ frames := 3, cells := 0, slots := 0, locals := 73 } : Room) 0 := ⟨(TWt 683 rfl (by decide +kernel)), (TWt 5 (by decide +kernel) (by decide +kernel)), ⟨by decide, by decide⟩, by decide +kernel, q.1, q.2⟩
theorem in_X5_become : Cond.instanceMethod yX5_become ∈ TW := (TWt 389 (by decide +kernel) (by decide +kernel))
theorem se_X5_become : Cond.selects yX5_become.cls yX5_become yX5_become ∈ TW := (TWt 390 (by decide +kernel) (by decide +kernel))
set_option maxRecDepth 16384 in
theorem CKX5_become {rm : Room} (q : ({ frames := 1, cells := 0, slots := 0, locals := 26 } : Room).frames + 1 ≤ rm.frames ∧ 8 + (2 + 11) + ({ frames := 1, cells := 0, slots := 0, locals := 26 } : Room).locals ≤ rm.locals) : CK rm yX5_become cX5_become 2 none ({ frames := 1, cells := 0, slots := 0, locals := 26 } : Room) 1 := ⟨(TWt 391 rfl (by decide +kernel)), (TWt 2 (by decide +kernel) (by decide +kernel)), ⟨by decide, by decide⟩, by decide +kernel, q.1, q.2⟩
theorem in_X5_firstPart : Cond.instanceMethod yX5_firstPart ∈ TW := (TWt 358 (by decide +kernel) (by decide +kernel))
theorem se_X5_firstPart : Cond.selects yX5_firstPart.cls yX5_firstPart yX5_firstPart ∈ TW := (TWt 359 (by decide +kernel) (by decide +kernel))
set_option maxRecDepth 16384 in
theorem CKX5_firstPart {rm : Room} (q : ({ frames := 0, cells := 0, slots := 0, locals := 0 } : Room).frames + 1 ≤ rm.frames ∧ 8 + (3 + 11) + ({ frames := 0, cells := 0, slots := 0, locals := 0 } : Room).locals ≤ rm.locals) : CK rm yX5_firstPart cX5_firstPart 3 (some .int) ({ frames := 0, cells := 0, slots := 0, locals := 0 } : Room) 2 := ⟨(TWt 360 rfl (by decide +kernel)), (TWt 2 (by decide +kernel) (by decide +kernel)), ⟨by decide, by decide⟩, by decide +kernel, q.1, q.2⟩
theorem in_X5_has : Cond.instanceMethod yX5_has ∈ TW := (TWt 424 (by decide +kernel) (by decide +kernel))
theorem se_X5_has : Cond.selects yX5_has.cls yX5_has yX5_has ∈ TW := (TWt 425 (by decide +kernel) (by decide +kernel))
set_option maxRecDepth 16384 in
theorem CKX5_has {rm : Room} (q : ({ frames := 0, cells := 0, slots := 0, locals := 0 } : Room).frames + 1 ≤ rm.frames ∧ 8 + (3 + 11) + ({ frames := 0, cells := 0, slots := 0, locals := 0 } : Room).locals ≤ rm.locals) : CK rm yX5_has cX5_has 3 (some .boolean) ({ frames := 0, cells := 0, slots := 0, locals := 0 } : Room) 2 := ⟨(TWt 426 rfl (by decide +kernel)), (TWt 2 (by decide +kernel) (by decide +kernel)), ⟨by decide, by decide⟩, by decide +kernel, q.1, q.2⟩
theorem in_X5_opOf : Cond.instanceMethod yX5_opOf ∈ TW := (TWt 551 (by decide +kernel) (by decide +kernel))
theorem se_X5_opOf : Cond.selects yX5_opOf.cls yX5_opOf yX5_opOf ∈ TW := (TWt 552 (by decide +kernel) (by decide +kernel))
set_option maxRecDepth 16384 in
theorem CKX5_opOf {rm : Room} (q : ({ frames := 1, cells := 0, slots := 0, locals := 22 } : Room).frames + 1 ≤ rm.frames ∧ 8 + (3 + 11) + ({ frames := 1, cells := 0, slots := 0, locals := 22 } : Room).locals ≤ rm.locals) : CK rm yX5_opOf cX5_opOf 3 (some .int) ({ frames := 1, cells := 0, slots := 0, locals := 22 } : Room) 2 := ⟨(TWt 553 rfl (by decide +kernel)), (TWt 2 (by decide +kernel) (by decide +kernel)), ⟨by decide, by decide⟩, by decide +kernel, q.1, q.2⟩
theorem in_X6_chosen : Cond.instanceMethod yX6_chosen ∈ TW := (TWt 755 (by decide +kernel) (by decide +kernel))
theorem se_X6_chosen : Cond.selects yX6_chosen.cls yX6_chosen yX6_chosen ∈ TW := (TWp 39 (by decide +kernel) (by decide +kernel))
set_option maxRecDepth 16384 in
theorem CKX6_chosen {rm : Room} (q : ({ frames := 0, cells := 0, slots := 0, locals := 0 } : Room).frames + 1 ≤ rm.frames ∧ 8 + (3 + 11) + ({ frames := 0, cells := 0, slots := 0, locals := 0 } : Room).locals ≤ rm.locals) : CK rm yX6_chosen cX6_chosen 3 (some .int) ({ frames := 0, cells := 0, slots := 0, locals := 0 } : Room) 1 := ⟨(TWt 756 rfl (by decide +kernel)), (TWt 6 (by decide +kernel) (by decide +kernel)), ⟨by decide, by decide⟩, by decide +kernel, q.1, q.2⟩
theorem in_X6_goThrough : Cond.instanceMethod yX6_goThrough ∈ TW := (TWt 745 (by decide +kernel) (by decide +kernel))
theorem se_X6_goThrough : Cond.selects yX6_goThrough.cls yX6_goThrough yX6_goThrough ∈ TW := (TWp 38 (by decide +kernel) (by decide +kernel))
set_option maxRecDepth 16384 in
theorem CKX6_goThrough {rm : Room} (q : ({ frames := 4, cells := 0, slots := 0, locals := 98 } : Room).frames + 1 ≤ rm.frames ∧ 8 + (3 + 11) + ({ frames := 4, cells := 0, slots := 0, locals := 98 } : Room).locals ≤ rm.locals) : CK rm yX6_goThrough cX6_goThrough 3 none ({ frames := 4, cells := 0, slots := 0, locals := 98 } : Room) 1 := ⟨(TWt 746 rfl (by decide +kernel)), (TWt 6 (by decide +kernel) (by decide +kernel)), ⟨by decide, by decide⟩, by decide +kernel, q.1, q.2⟩
theorem in_X6_look : Cond.instanceMethod yX6_look ∈ TW := (TWt 740 (by decide +kernel) (by decide +kernel))
theorem se_X6_look : Cond.selects yX6_look.cls yX6_look yX6_look ∈ TW := (TWt 741 (by decide +kernel) (by decide +kernel))
set_option maxRecDepth 16384 in
theorem CKX6_look {rm : Room} (q : ({ frames := 6, cells := 0, slots := 0, locals := 141 } : Room).frames + 1 ≤ rm.frames ∧ 8 + (4 + 11) + ({ frames := 6, cells := 0, slots := 0, locals := 141 } : Room).locals ≤ rm.locals) : CK rm yX6_look cX6_look 4 (some .int) ({ frames := 6, cells := 0, slots := 0, locals := 141 } : Room) 2 := ⟨(TWt 742 rfl (by decide +kernel)), (TWt 6 (by decide +kernel) (by decide +kernel)), ⟨by decide, by decide⟩, by decide +kernel, q.1, q.2⟩
theorem in_X6_moveOn : Cond.instanceMethod yX6_moveOn ∈ TW := (TWt 768 (by decide +kernel) (by decide +kernel))
theorem se_X6_moveOn : Cond.selects yX6_moveOn.cls yX6_moveOn yX6_moveOn ∈ TW := (TWp 42 (by decide +kernel) (by decide +kernel))
set_option maxRecDepth 16384 in
theorem CKX6_moveOn {rm : Room} (q : ({ frames := 0, cells := 0, slots := 0, locals := 0 } : Room).frames + 1 ≤ rm.frames ∧ 8 + (5 + 11) + ({ frames := 0, cells := 0, slots := 0, locals := 0 } : Room).locals ≤ rm.locals) : CK rm yX6_moveOn cX6_moveOn 5 (some .boolean) ({ frames := 0, cells := 0, slots := 0, locals := 0 } : Room) 1 := ⟨(TWt 769 rfl (by decide +kernel)), (TWt 6 (by decide +kernel) (by decide +kernel)), ⟨by decide, by decide⟩, by decide +kernel, q.1, q.2⟩
theorem in_X6_putAhead : Cond.instanceMethod yX6_putAhead ∈ TW := (TWt 760 (by decide +kernel) (by decide +kernel))
theorem se_X6_putAhead : Cond.selects yX6_putAhead.cls yX6_putAhead yX6_putAhead ∈ TW := (TWp 40 (by decide +kernel) (by decide +kernel))
set_option maxRecDepth 16384 in
theorem CKX6_putAhead {rm : Room} (q : ({ frames := 0, cells := 0, slots := 0, locals := 0 } : Room).frames + 1 ≤ rm.frames ∧ 8 + (3 + 11) + ({ frames := 0, cells := 0, slots := 0, locals := 0 } : Room).locals ≤ rm.locals) : CK rm yX6_putAhead cX6_putAhead 3 none ({ frames := 0, cells := 0, slots := 0, locals := 0 } : Room) 2 := ⟨(TWt 761 rfl (by decide +kernel)), (TWt 6 (by decide +kernel) (by decide +kernel)), ⟨by decide, by decide⟩, by decide +kernel, q.1, q.2⟩
theorem in_X6_putChanges : Cond.instanceMethod yX6_putChanges ∈ TW := (TWt 764 (by decide +kernel) (by decide +kernel))
theorem se_X6_putChanges : Cond.selects yX6_putChanges.cls yX6_putChanges yX6_putChanges ∈ TW := (TWp 41 (by decide +kernel) (by decide +kernel))
set_option maxRecDepth 16384 in
theorem CKX6_putChanges {rm : Room} (q : ({ frames := 5, cells := 0, slots := 0, locals := 120 } : Room).frames + 1 ≤ rm.frames ∧ 8 + (2 + 11) + ({ frames := 5, cells := 0, slots := 0, locals := 120 } : Room).locals ≤ rm.locals) : CK rm yX6_putChanges cX6_putChanges 2 (some .boolean) ({ frames := 5, cells := 0, slots := 0, locals := 120 } : Room) 0 := ⟨(TWt 765 rfl (by decide +kernel)), (TWt 6 (by decide +kernel) (by decide +kernel)), ⟨by decide, by decide⟩, by decide +kernel, q.1, q.2⟩
end MG_14_cls
