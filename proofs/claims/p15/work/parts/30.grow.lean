/-! GROWING WORLDS: objects and rows are made behind those that are there. -/
def xg (X : fj_X) (a b : Nat) : fj_X := (X.1, X.2.1, (X.2.2.1.1 + a, X.2.2.1.2.1 + b, X.2.2.1.2.2), X.2.2.2)
def FE (X : fj_X) : Prop := EN X.2.2.2.2 X.2.1.1
def FN (X : fj_X) (nm : String) : Prop := X.2.1.2.2.2.2.1.name = nm
theorem FC.g {X : fj_X} {Y : fj_Y} {l : Launch} {cc : ByteArray} {nL : Nat} {own : String} {rm : Room} {mc ms a b : Nat} {ret : Option FieldType} (C : FC X Y l cc nL own rm mc ms ret) (h1 : mc + a ≤ rm.cells) (h2 : ms + b ≤ rm.slots) : FC (xg X a b) Y l cc nL own rm (mc + a) (ms + b) ret := by
  obtain ⟨⟨p, l, e, R⟩, ⟨s, m, args, below, meth, c⟩, ⟨cells, slots, Q⟩, ⟨nL', A⟩⟩ := X
  obtain ⟨G, cA⟩ := Y
  obtain ⟨hx, hb, hml, hown, hts, hK, hlk, hR, hce, hsl, hnl, hret, htr, hmc, hms, hA⟩ := C
  subst hce hsl
  exact ⟨hx, hb, hml, hown, hts, hK, hlk, hR, rfl, rfl, hnl, hret, htr, h1, h2, hA⟩
def clE (n : Nat) (E : ph_E) : Prop := match E with
  | .inl _ => True
  | .inr (.inl (_, _, rf)) => ∀ j r, rf j = some (some r) → r < n
  | .inr (.inr (_, _, g)) => ∀ i r, g i = some r → r < n
/-- what the things of a world refer to stands in it -/
def clS (n : Nat) (S : ph_S) : Prop := ∀ k, k < n → clE n (S k)
theorem clE.mono {n n' : Nat} {E : ph_E} (h : clE n E) (q : n ≤ n') : clE n' E := by
  unfold clE at h ⊢
  split at h
  · trivial
  · exact fun j r e => Nat.lt_of_lt_of_le (h j r e) q
  · exact fun i r e => Nat.lt_of_lt_of_le (h i r e) q
theorem clS.push {n : Nat} {S : ph_S} {E : ph_E} (h : clS n S) (q : clE (n + 1) E) : clS (n + 1) (va_up S n E) := by
  intro k hk
  by_cases e : k = n
  · subst e
    rw [va_up_self]
    exact q
  · rw [va_up_ne _ _ e]
    exact (h k (by omega)).mono (Nat.le_succ n)
theorem clS.set {n k : Nat} {S : ph_S} {E : ph_E} (h : clS n S) (q : clE n E) : clS n (va_up S k E) := by
  intro j hj
  by_cases e : j = k
  · subst e
    rw [va_up_self]
    exact q
  · rw [va_up_ne _ _ e]
    exact h j hj
theorem ph_e_ad {n : Nat} {cA : Nat → ClassId} {ad ad' : Nat → Nat} {E : ph_E} {hk : Nat → Int32} (q : clE n E) (hA : ∀ k, k < n → ad' k = ad k) : ph_e cA ad' E hk = ph_e cA ad E hk := by
  unfold clE at q
  split at q
  · rfl
  · rename_i ci nf rf
    show Sum.inr (ci, _) = Sum.inr (ci, _)
    congr 2
    refine List.map_congr_left (fun j _ => ?_)
    unfold ph_f
    cases hr : rf j with
    | none => rfl
    | some o =>
      cases o with
      | none => rfl
      | some r => exact congrArg va_rf (congrArg some (hA r (q j r hr)))
  · rename_i t len g
    show Sum.inl (cA t, len, _) = Sum.inl (cA t, len, _)
    congr 7
    funext i
    cases hg : g i with
    | none => rfl
    | some r => exact congrArg some (hA r (q i r hg))
theorem ph_w_push {n : Nat} {cA : Nat → ClassId} {ad ad' : Nat → Nat} {S : ph_S} {h : ph_H} {E : ph_E} {f : Nat → Int32} (hc : clS n S) (hA : ∀ k, k < n → ad' k = ad k) : ph_w (n + 1) cA ad' (va_up S n E) (va_up h n f) = ph_w n cA ad S h ++ [(ad' n, ph_e cA ad' E f)] := by
  unfold ph_w
  rw [List.range_succ, List.map_append]
  congr 1
  · refine List.map_congr_left (fun k hk => ?_)
    have hl : k < n := List.mem_range.mp hk
    have e : k ≠ n := by omega
    rw [hA k hl, va_up_ne _ _ e, va_up_ne _ _ e, ph_e_ad (hc k hl) hA]
  · show [(ad' n, ph_e cA ad' (va_up S n E n) (va_up h n f n))] = _
    rw [va_up_self, va_up_self]
/-- the fields of a new object: references are null -/
def rz (rf : Nat → Option (Option Nat)) : Nat → Option (Option Nat) := fun j => (rf j).map (fun _ => none)
theorem rz_cl {rf : Nat → Option (Option Nat)} {j r : Nat} (h : rz rf j = some (some r)) : False := by
  unfold rz at h
  cases q : rf j with
  | none => rw [q] at h; cases h
  | some o => rw [q] at h; cases h
def dvOk (ty0 : Nat → FieldType) (rf : Nat → Option (Option Nat)) (nf : Nat) : Bool := (List.range nf).all (fun j => match rf j with
  | some _ => decide (defaultValue (ty0 j) = .null)
  | none => decide (defaultValue (ty0 j) = .int 0))
theorem rz_f {ad : Nat → Nat} {rf : Nat → Option (Option Nat)} {ty0 : Nat → FieldType} {nf j : Nat} (h : dvOk ty0 rf nf = true) (hj : j < nf) : defaultValue (ty0 j) = ph_f ad (rz rf) (fun _ => 0) j := by
  have q := List.all_eq_true.mp h j (List.mem_range.mpr hj)
  unfold ph_f rz
  cases e : rf j with
  | none => rw [e] at q; exact of_decide_eq_true q
  | some o => rw [e] at q; exact of_decide_eq_true q
section GROW
variable {X : fj_X} {Y : fj_Y} {l0 : Launch} {cc : ByteArray} {nL : Nat} {own : String} {rm : Room} {mc ms : Nat} {ret : Option FieldType} {ad : Nat → Nat} {n : Nat} {S : ph_S} {h : ph_H} {pc : Nat} {lv : List (Nat × Value)} {stk st : List Value}
theorem j_new (C : FC X Y l0 cc nL own rm mc ms ret) {ix ci nf : Nat} {Cn : String} {T : u_T} {ty0 : Nat → FieldType} {rf : Nat → Option (Option Nat)} (hd : decode cc pc = .ok (.new ix, 3)) (hcl : vwCl[ci]? = some (Cn, T, nf)) (hin : ∀ w ∈ u_ws Cn T nf, w ∈ TW) (hty : ∀ k, k < nf → parseFieldDescriptor (T k).2.2.1 = some (ty0 k)) (hlink : Cond.classLink own ix Cn ∈ TW) (hinst : Cond.instantiable Cn nf ∈ TW) (hini : Cond.initialized Cn ∈ TW) (hdv : dvOk ty0 rf nf = true) (hcs : clS n S) (h1 : mc + 1 ≤ rm.cells) (h2 : ms + nf ≤ rm.slots)
    (kk : ∀ ad' : Nat → Nat, (∀ k, k < n → ad' k = ad k) → FJ (xg X 1 nf) Y ad' (n + 1) (va_up S n (.inr (.inl (ci, nf, rz rf)))) (va_up h n (fun _ => 0)) (pc + 3) lv (.ref (ad' n) :: st)) : FJ X Y ad n S h pc lv st := by
  obtain ⟨⟨p, l, e, R⟩, ⟨s, m, args, below, meth, c⟩, ⟨cells, slots, Q⟩, ⟨nL', A⟩⟩ := X
  obtain ⟨G, cA⟩ := Y
  obtain ⟨hx, hb, hml, hown, hts, hK, hlk, hR, hce, hsl, hnl, hret, htr, hmc, hms, hA⟩ := C
  subst hR hce hsl
  intro H locs ls hP hD hS hl
  refine va_new (D := G) (fs := (List.range nf).map (ph_f ad (rz rf) (fun _ => 0))) hx hb hts hin ty0 hty hown (hts _ hlink) (hts _ hinst) (hts _ hini) hK hP hD hS hA hcl (fun j hj => ?_) h1 h2 hd (fun q H1 hP1 hD1 hS1 => ?_)
  · unfold vp_V
    rw [List.getD_eq_getElem?_getD, List.getElem?_map, List.getElem?_range hj]
    exact rz_f hdv hj
  · have hAd : ∀ k, k < n → va_up ad n q k = ad k := fun k hk => va_up_ne _ _ (by omega)
    have ew : ph_w (n + 1) cA (va_up ad n q) (va_up S n (.inr (.inl (ci, nf, rz rf)))) (va_up h n (fun _ => 0)) = ph_w n cA ad S h ++ [(q, .inr (ci, (List.range nf).map (ph_f ad (rz rf) (fun _ => 0))))] := by
      rw [ph_w_push hcs hAd, va_up_self]
      congr 3
      exact ph_e_ad (n := n) (E := .inr (.inl (ci, nf, rz rf))) (fun j r hr => (rz_cl hr).elim) hAd
    have k := kk (va_up ad n q) hAd H1 locs ls (by rw [ew]; exact hP1) (by rw [ew]; exact hD1) hS1 hl
    rw [va_up_self] at k
    exact k
theorem j_newa (C : FC X Y l0 cc nL own rm mc ms ret) {at_ : ArrayType} {t N : Nat} {ty : FieldType} {z : Int32} (hd : decode cc pc = .ok (.newarray at_, 2)) (hty : newarray.typeOf at_ = ty) (harr : Cond.arrayClass ty ∈ TW) (ht : ∀ cA : Nat → ClassId, (tyl cA)[t]? = some (cA t, ty)) (hra : ∀ (U : State) (c : ClassId), va_RA U c ty → U.vm.findClass ("[" ++ ty.toString) = some c) (hdv : defaultValue ty = .int 0) (hz : ¬ z < 0) (hN : z.toNatClampNeg = N) (hby : N * componentBytes ty ≤ 536870912) (hcs : clS n S) (h1 : mc + 1 ≤ rm.cells) (h2 : ms + N ≤ rm.slots)
    (kk : ∀ ad' : Nat → Nat, (∀ k, k < n → ad' k = ad k) → FJ (xg X 1 N) Y ad' (n + 1) (va_up S n (.inl (t, N))) (va_up h n (fun _ => 0)) (pc + 2) lv (.ref (ad' n) :: st)) : FJ X Y ad n S h pc lv (.int z :: st) := by
  obtain ⟨⟨p, l, e, R⟩, ⟨s, m, args, below, meth, c⟩, ⟨cells, slots, Q⟩, ⟨nL', A⟩⟩ := X
  obtain ⟨G, cA⟩ := Y
  obtain ⟨hx, hb, hml, hown, hts, hK, hlk, hR, hce, hsl, hnl, hret, htr, hmc, hms, hA⟩ := C
  subst hR hce hsl
  intro H locs ls hP hD hS hl
  refine va_newa (D := G) (ty := ty) (a0 := (N, .inl (fun _ => 0))) hx hb (by rw [hty]; exact hts _ harr) hty hK hP hD hS hA (fun c1 => by rw [vp_cell_i, hdv]) hz hN hby h1 h2 hd (fun q c1 H1 hK1 hP1 hD1 hS1 => ?_)
  have e1 : c1 = cA t := by
    have a1 := hra s c1 (hK1.2 5 (c1, ty) rfl).2
    have a2 := hra s (cA t) (hK.2 t _ (ht cA)).2
    exact Option.some.inj (a1.symm.trans a2)
  subst e1
  have hAd : ∀ k, k < n → va_up ad n q k = ad k := fun k hk => va_up_ne _ _ (by omega)
  have ew : ph_w (n + 1) cA (va_up ad n q) (va_up S n (.inl (t, N))) (va_up h n (fun _ => 0)) = ph_w n cA ad S h ++ [(q, .inl (cA t, N, .inl (fun _ => 0)))] := by
    rw [ph_w_push hcs hAd, va_up_self]
    rfl
  have k := kk (va_up ad n q) hAd H1 locs ls (by rw [ew]; exact hP1) (by rw [ew]; exact hD1) hS1 hl
  rw [va_up_self] at k
  exact k
theorem j_putFr (C : FC X Y l0 cc nL own rm mc ms ret) (hni : FN X "<init>") {ix k ci nf j r : Nat} {rf : Nat → Option (Option Nat)} {Cn ref : String} {T : u_T} {ty0 : Nat → FieldType} {ty : FieldType} (hd : decode cc pc = .ok (.putfield ix, 3)) (hk : k < n) (hS0 : S k = .inr (.inl (ci, nf, rf))) (hcl : vwCl[ci]? = some (Cn, T, nf)) (hin : ∀ w ∈ u_ws Cn T nf, w ∈ TW) (hty : ∀ k, k < nf → parseFieldDescriptor (T k).2.2.1 = some (ty0 k)) (hnm : ∀ a, a < nf → ∀ b, b < nf → a ≠ b → (T a).2.1 ≠ (T b).2.1) (hj : j < nf) (hlink : Cond.fieldLink own ix ref (T j).2.1 (T j).2.2.1 ∈ TW) (hsame : (T j).1 = ref) (hfin : (T j).2.2.2 = true) (hdecl : (T j).1 = own) (hpt : parseFieldDescriptor (T j).2.2.1 = some ty) (hnar : ∀ a : Nat, narrow ty (.ref a) = .ref a) (hfit : ∀ a : Nat, fits ty (.ref a) = true) (kk : FJ X Y ad n (va_up S k (.inr (.inl (ci, nf, va_up rf j (some (some r)))))) h (pc + 3) lv st) : FJ X Y ad n S h pc lv (.ref (ad r) :: .ref (ad k) :: st) := by
  obtain ⟨⟨p, l, e, R⟩, ⟨s, m, args, below, meth, c⟩, ⟨cells, slots, Q⟩, ⟨nL', A⟩⟩ := X
  obtain ⟨G, cA⟩ := Y
  obtain ⟨hx, hb, hml, hown, hts, hK, hlk, hR, hce, hsl, hnl, hret, htr, hmc, hms, hA⟩ := C
  refine fun H locs ls hP hD hS hl => va_putF (D := (G)) hx hb hts hin ty0 hty hnm hown hK hP hD hS k (by rw [ph_at hk, hS0]; rfl) hcl j hj (hts _ hlink) (fun _ q => by rw [← hsame]; exact q) hfin hni hdecl hpt (hnar _) (hfit _) (by simpa using hj) hd (fun H1 locs1 hP1 hD1 hS1 => ?_)
  have e : (ph_w n cA ad S h).set k (ad k, .inr (ci, ((List.range nf).map (ph_f ad rf (h k))).set j (.ref (ad r)))) = ph_w n cA ad (va_up S k (.inr (.inl (ci, nf, va_up rf j (some (some r)))))) h := ph_setS (by rw [show (Value.ref (ad r)) = va_rf ((some r).map ad) from rfl, ph_fsetr]; rfl)
  rw [e] at hP1 hD1
  exact kk H1 locs1 ls hP1 hD1 hS1 hl
theorem j_putFi (C : FC X Y l0 cc nL own rm mc ms ret) (hni : FN X "<init>") {ix k ci nf j : Nat} {rf : Nat → Option (Option Nat)} {Cn ref : String} {T : u_T} {ty0 : Nat → FieldType} {v : Int32} (hd : decode cc pc = .ok (.putfield ix, 3)) (hk : k < n) (hS0 : S k = .inr (.inl (ci, nf, rf))) (hc : vwCl[ci]? = some (Cn, T, nf)) (hin : ∀ w ∈ u_ws Cn T nf, w ∈ TW) (hty : ∀ k, k < nf → parseFieldDescriptor (T k).2.2.1 = some (ty0 k)) (hnm : ∀ a, a < nf → ∀ b, b < nf → a ≠ b → (T a).2.1 ≠ (T b).2.1) (hj : j < nf) (hlink : Cond.fieldLink own ix ref (T j).2.1 (T j).2.2.1 ∈ TW) (hsame : (T j).1 = ref) (hfin : (T j).2.2.2 = true) (hdecl : (T j).1 = own) (hrf : rf j = none) (hpt : parseFieldDescriptor (T j).2.2.1 = some .int) (kk : FJ X Y ad n S (hs h k j v) (pc + 3) lv (st)) : FJ X Y ad n S h pc lv (.int v :: .ref (ad k) :: st) := by
  obtain ⟨⟨p, l, e, R⟩, ⟨s, m, args, below, meth, c⟩, ⟨cells, slots, Q⟩, ⟨nL', A⟩⟩ := X
  obtain ⟨G, cA⟩ := Y
  obtain ⟨hx, hb, hml, hown, hts, hK, hlk, hR, hce, hsl, hnl, hret, htr, hmc, hms, hA⟩ := C
  refine fun H locs ls hP hD hS hl => va_putF (D := (G)) hx hb hts hin ty0 hty hnm hown hK hP hD hS k (by rw [ph_at hk, hS0]; rfl) hc j hj (hts _ hlink) (fun _ q => by rw [← hsame]; exact q) hfin hni hdecl hpt rfl rfl (by simpa using hj) hd (fun H1 locs1 hP1 hD1 hS1 => ?_)
  have e : (ph_w n cA ad S h).set k (ad k, .inr (ci, ((List.range nf).map (ph_f ad rf (h k))).set j (.int v))) = ph_w n cA ad S (va_up h k (upd (h k) j v)) := ph_seth (by rw [hS0, ph_fset hrf]; rfl)
  rw [e] at hP1 hD1
  exact kk H1 locs1 ls hP1 hD1 hS1 hl
theorem j_objInit (C : FC X Y l0 cc nL own rm mc ms ret) {ix a : Nat} (hd : decode cc pc = .ok (.invokespecial ix, 3)) (hlink : Cond.methodLink own ix Lib.objectInit ∈ TW) (hin : Cond.instanceMethod Lib.objectInit ∈ TW) (hco : Cond.code Lib.objectInit ⟨#[0xb1]⟩ 1 none ∈ TW) (h1 : 1 ≤ rm.frames) (h2 : (st.map fun v => v.category).sum + 12 ≤ rm.locals) (kk : FJ X Y ad n S h (pc + 3) lv st) : FJ X Y ad n S h pc lv (.ref a :: st) := by
  obtain ⟨⟨p, l, e, R⟩, ⟨s, m, args, below, meth, c⟩, ⟨cells, slots, Q⟩, ⟨nL', A⟩⟩ := X
  obtain ⟨G, cA⟩ := Y
  obtain ⟨hx, hb, hml, hown, hts, hK, hlk, hR, hce, hsl, hnl, hret, htr, hmc, hms, hA⟩ := C
  subst hR hnl
  intro H locs ls hP hD hS hl
  exact W.objInit hx hb hown (hts _ hlink) (hts _ hin) (hts _ hco) rfl (hl.1.trans hml.symm) rfl hd h1 (by show 2 * 0 + _ + 12 ≤ _; omega) (kk H locs ls hP hD hS hl)
theorem j_aconst (C : FC X Y l0 cc nL own rm mc ms ret) (hd : decode cc pc = .ok (.aconst_null, 1)) (kk : FJ X Y ad n S h (pc + 1) lv (.null :: st)) : FJ X Y ad n S h pc lv st := by
  obtain ⟨⟨p, l, e, R⟩, ⟨s, m, args, below, meth, c⟩, ⟨cells, slots, Q⟩, ⟨nL', A⟩⟩ := X
  obtain ⟨G, cA⟩ := Y
  obtain ⟨hx, hb, hml, hown, hts, hK, hlk, hR, hce, hsl, hnl, hret, htr, hmc, hms, hA⟩ := C
  exact fun H locs ls hP hD hS hl => lv_null hx hb hd (kk H locs ls hP hD hS hl)
theorem j_aload_nN (C : FC X Y l0 cc nL own rm mc ms ret) {q : Fin 4} {i : Nat} (hd : decode cc pc = .ok (.aload_n q, 1)) (hi : (q : Nat) = i) (hv : lx_get lv i = some .null) (k : FJ X Y ad n S h (pc + 1) lv (.null :: st)) : FJ X Y ad n S h pc lv (st) := by
  obtain ⟨⟨p, l, e, R⟩, ⟨s, m, args, below, meth, c⟩, ⟨cells, slots, Q⟩, ⟨nL', A⟩⟩ := X
  obtain ⟨G, cA⟩ := Y
  obtain ⟨hx, hb, hml, hown, hts, hK, hlk, hR, hce, hsl, hnl, hret, htr, hmc, hms, hA⟩ := C
  exact fun H locs ls hP hD hS hl => lv_aload_nN hx hb hd hi (hl.2.2 _ (lx_get_mem hv)) (k H locs ls hP hD hS hl)
theorem j_aloadN (C : FC X Y l0 cc nL own rm mc ms ret) {i : Nat} (hd : decode cc pc = .ok (.aload i, 2)) (hv : lx_get lv i = some .null) (k : FJ X Y ad n S h (pc + 2) lv (.null :: st)) : FJ X Y ad n S h pc lv (st) := by
  obtain ⟨⟨p, l, e, R⟩, ⟨s, m, args, below, meth, c⟩, ⟨cells, slots, Q⟩, ⟨nL', A⟩⟩ := X
  obtain ⟨G, cA⟩ := Y
  obtain ⟨hx, hb, hml, hown, hts, hK, hlk, hR, hce, hsl, hnl, hret, htr, hmc, hms, hA⟩ := C
  exact fun H locs ls hP hD hS hl => lv_aloadN hx hb hd (hl.2.2 _ (lx_get_mem hv)) (k H locs ls hP hD hS hl)
theorem j_astore_nN (C : FC X Y l0 cc nL own rm mc ms ret) {q : Fin 4} {i : Nat} {lv' : List (Nat × Value)} (hd : decode cc pc = .ok (.astore_n q, 1)) (hi : (q : Nat) = i) (hn : i < nL) (hv : lx_put lv i .null = some lv') (k : FJ X Y ad n S h (pc + 1) lv' (st)) : FJ X Y ad n S h pc lv (.null :: st) := by
  obtain ⟨⟨p, l, e, R⟩, ⟨s, m, args, below, meth, c⟩, ⟨cells, slots, Q⟩, ⟨nL', A⟩⟩ := X
  obtain ⟨G, cA⟩ := Y
  obtain ⟨hx, hb, hml, hown, hts, hK, hlk, hR, hce, hsl, hnl, hret, htr, hmc, hms, hA⟩ := C
  subst hnl
  exact fun H locs ls hP hD hS hl => lv_astore_nN hx hb hd hi hl hn rfl (fun ls2 hl2 => k H locs ls2 hP hD hS (lx_has hv hl2))
theorem j_astoreN (C : FC X Y l0 cc nL own rm mc ms ret) {i : Nat} {lv' : List (Nat × Value)} (hd : decode cc pc = .ok (.astore i, 2)) (hn : i < nL) (hv : lx_put lv i .null = some lv') (k : FJ X Y ad n S h (pc + 2) lv' (st)) : FJ X Y ad n S h pc lv (.null :: st) := by
  obtain ⟨⟨p, l, e, R⟩, ⟨s, m, args, below, meth, c⟩, ⟨cells, slots, Q⟩, ⟨nL', A⟩⟩ := X
  obtain ⟨G, cA⟩ := Y
  obtain ⟨hx, hb, hml, hown, hts, hK, hlk, hR, hce, hsl, hnl, hret, htr, hmc, hms, hA⟩ := C
  subst hnl
  exact fun H locs ls hP hD hS hl => lv_astoreN hx hb hd hl hn rfl (fun ls2 hl2 => k H locs ls2 hP hD hS (lx_has hv hl2))
theorem j_ifnull (C : FC X Y l0 cc nL own rm mc ms ret) {x : Nat} {off : Int} (hd : decode cc pc = .ok (.ifnull off, 3)) (k : FJ X Y ad n S h (pc + 3) lv st) : FJ X Y ad n S h pc lv (.ref x :: st) := by
  obtain ⟨⟨p, l, e, R⟩, ⟨s, m, args, below, meth, c⟩, ⟨cells, slots, Q⟩, ⟨nL', A⟩⟩ := X
  obtain ⟨G, cA⟩ := Y
  obtain ⟨hx, hb, hml, hown, hts, hK, hlk, hR, hce, hsl, hnl, hret, htr, hmc, hms, hA⟩ := C
  exact fun H locs ls hP hD hS hl => lv_ifnull hx hb hd (k H locs ls hP hD hS hl)
theorem j_ifnullN (C : FC X Y l0 cc nL own rm mc ms ret) {off : Int} {tgt : Nat} (hd : decode cc pc = .ok (.ifnull off, 3)) (ht : (pc : Int) + off = (tgt : Int)) (k : FJ X Y ad n S h tgt lv st) : FJ X Y ad n S h pc lv (.null :: st) := by
  obtain ⟨⟨p, l, e, R⟩, ⟨s, m, args, below, meth, c⟩, ⟨cells, slots, Q⟩, ⟨nL', A⟩⟩ := X
  obtain ⟨G, cA⟩ := Y
  obtain ⟨hx, hb, hml, hown, hts, hK, hlk, hR, hce, hsl, hnl, hret, htr, hmc, hms, hA⟩ := C
  exact fun H locs ls hP hD hS hl => lv_ifnullN hx hb hd ht (k H locs ls hP hD hS hl)
theorem j_ifnonnull (C : FC X Y l0 cc nL own rm mc ms ret) {x : Nat} {off : Int} {tgt : Nat} (hd : decode cc pc = .ok (.ifnonnull off, 3)) (ht : (pc : Int) + off = (tgt : Int)) (k : FJ X Y ad n S h tgt lv st) : FJ X Y ad n S h pc lv (.ref x :: st) := by
  obtain ⟨⟨p, l, e, R⟩, ⟨s, m, args, below, meth, c⟩, ⟨cells, slots, Q⟩, ⟨nL', A⟩⟩ := X
  obtain ⟨G, cA⟩ := Y
  obtain ⟨hx, hb, hml, hown, hts, hK, hlk, hR, hce, hsl, hnl, hret, htr, hmc, hms, hA⟩ := C
  exact fun H locs ls hP hD hS hl => lv_ifnonnull hx hb hd ht (k H locs ls hP hD hS hl)
theorem j_ifnonnullN (C : FC X Y l0 cc nL own rm mc ms ret) {off : Int} (hd : decode cc pc = .ok (.ifnonnull off, 3)) (k : FJ X Y ad n S h (pc + 3) lv st) : FJ X Y ad n S h pc lv (.null :: st) := by
  obtain ⟨⟨p, l, e, R⟩, ⟨s, m, args, below, meth, c⟩, ⟨cells, slots, Q⟩, ⟨nL', A⟩⟩ := X
  obtain ⟨G, cA⟩ := Y
  obtain ⟨hx, hb, hml, hown, hts, hK, hlk, hR, hce, hsl, hnl, hret, htr, hmc, hms, hA⟩ := C
  exact fun H locs ls hP hD hS hl => lv_ifnonnullN hx hb hd (k H locs ls hP hD hS hl)
theorem j_i2b (C : FC X Y l0 cc nL own rm mc ms ret) {x : Int32} (hd : decode cc pc = .ok (.i2b, 1)) (k : FJ X Y ad n S h (pc + 1) lv (.int x.toInt8.toInt32 :: st)) : FJ X Y ad n S h pc lv (.int x :: st) := by
  obtain ⟨⟨p, l, e, R⟩, ⟨s, m, args, below, meth, c⟩, ⟨cells, slots, Q⟩, ⟨nL', A⟩⟩ := X
  obtain ⟨G, cA⟩ := Y
  obtain ⟨hx, hb, hml, hown, hts, hK, hlk, hR, hce, hsl, hnl, hret, htr, hmc, hms, hA⟩ := C
  exact fun H locs ls hP hD hS hl => lv_i2b hx hb hd rfl (k H locs ls hP hD hS hl)
theorem j_mmin (C : FC X Y l0 cc nL own rm mc ms ret) {ix : Nat} {x y : Int32} (hd : decode cc pc = .ok (.invokestatic ix, 3)) (hlink : Cond.methodLink own ix Lib.Math.min.name ∈ TW) (hst : Cond.static Lib.Math.min.name ∈ TW) (hini : Cond.initialized "java/lang/Math" ∈ TW) (hco : Cond.code Lib.Math.min.name Lib.Math.min.code 2 (some .int) ∈ TW) (h0 : 1 ≤ rm.frames) (h1 : (st.map fun v => v.category).sum + 13 ≤ rm.locals) (k : FJ X Y ad n S h (pc + 3) lv (.int (if y < x then y else x) :: st)) : FJ X Y ad n S h pc lv (.int y :: .int x :: st) := by
  obtain ⟨⟨p, l, e, R⟩, ⟨s, m, args, below, meth, c⟩, ⟨cells, slots, Q⟩, ⟨nL', A⟩⟩ := X
  obtain ⟨G, cA⟩ := Y
  obtain ⟨hx, hb, hml, hown, hts, hK, hlk, hR, hce, hsl, hnl, hret, htr, hmc, hms, hA⟩ := C
  subst hR hce hsl hnl
  exact fun H locs ls hP hD hS hl => va_mmin hx hb (hml.trans hl.1.symm) hown (hts _ hlink) (hts _ hst) (hts _ hini) (hts _ hco) h0 h1 hmc hms hd (k H locs ls hP hD hS hl)
/-- a place of a row of references: null, or what it refers to -/
theorem j_aaldq (C : FC X Y l0 cc nL own rm mc ms ret) {k0 len : Nat} {g : Nat → Option Nat} {i : Int32} (hd : decode cc pc = .ok (.aaload, 1)) (hk : k0 < n) (hS0 : S k0 = .inr (.inr (3, len, g))) (hi : vp_in i len) (kk : FJ X Y ad n S h (pc + 1) lv (va_rf ((g i.toNatClampNeg).map ad) :: st)) : FJ X Y ad n S h pc lv (.int i :: .ref (ad k0) :: st) := by
  obtain ⟨⟨p, l, e, R⟩, ⟨s, m, args, below, meth, c⟩, ⟨cells, slots, Q⟩, ⟨nL', A⟩⟩ := X
  obtain ⟨G, cA⟩ := Y
  obtain ⟨hx, hb, hml, hown, hts, hK, hlk, hR, hce, hsl, hnl, hret, htr, hmc, hms, hA⟩ := C
  exact fun H locs ls hP hD hS hl => va_aldq (C := "ReplayBox$Held") hx hb hK hP k0 3 (by rw [ph_at hk, hS0]; rfl) rfl hi hd (kk H locs ls hP hD hS hl)
theorem up_map {g : Nat → Option Nat} {i : Nat} {o : Option Nat} : va_up (fun j => (g j).map ad) i (o.map ad) = fun j => (va_up g i o j).map ad := by
  funext j
  by_cases e : j = i
  · subst e
    rw [va_up_self, va_up_self]
  · rw [va_up_ne _ _ e, va_up_ne _ _ e]
theorem j_aastN (C : FC X Y l0 cc nL own rm mc ms ret) {k0 len : Nat} {g : Nat → Option Nat} {i : Int32} (hd : decode cc pc = .ok (.aastore, 1)) (hk : k0 < n) (hS0 : S k0 = .inr (.inr (3, len, g))) (hi : vp_in i len) (kk : FJ X Y ad n (va_up S k0 (.inr (.inr (3, len, va_up g i.toNatClampNeg none)))) h (pc + 1) lv st) : FJ X Y ad n S h pc lv (.null :: .int i :: .ref (ad k0) :: st) := by
  obtain ⟨⟨p, l, e, R⟩, ⟨s, m, args, below, meth, c⟩, ⟨cells, slots, Q⟩, ⟨nL', A⟩⟩ := X
  obtain ⟨G, cA⟩ := Y
  obtain ⟨hx, hb, hml, hown, hts, hK, hlk, hR, hce, hsl, hnl, hret, htr, hmc, hms, hA⟩ := C
  refine fun H locs ls hP hD hS hl => va_astqN (C := "ReplayBox$Held") hx hb hK hP hD hS k0 3 (by rw [ph_at hk, hS0]; rfl) rfl hi hd (fun H1 locs1 hP1 hD1 hS1 => ?_)
  have e : (ph_w n cA ad S h).set k0 (ad k0, .inl (cA 3, len, .inr (.inr (.inr (.inr (va_up (fun j => (g j).map ad) i.toNatClampNeg none)))))) = ph_w n cA ad (va_up S k0 (.inr (.inr (3, len, va_up g i.toNatClampNeg none)))) h := ph_setS (by rw [show (none : Option Nat) = (none : Option Nat).map ad from rfl, up_map]; rfl)
  rw [e] at hP1 hD1
  exact kk H1 locs1 ls hP1 hD1 hS1 hl
theorem j_aastO (C : FC X Y l0 cc nL own rm mc ms ret) (E : FE X) {k0 len r ci nf : Nat} {g : Nat → Option Nat} {rf : Nat → Option (Option Nat)} {Cn : String} {T : u_T} {i : Int32} (hd : decode cc pc = .ok (.aastore, 1)) (hk : k0 < n) (hS0 : S k0 = .inr (.inr (3, len, g))) (hi : vp_in i len) (hr : r < n) (hSr : S r = .inr (.inl (ci, nf, rf))) (hcl : vwCl[ci]? = some (Cn, T, nf)) (hca : (Cn, "ReplayBox$Held") ∈ enC) (kk : FJ X Y ad n (va_up S k0 (.inr (.inr (3, len, va_up g i.toNatClampNeg (some r))))) h (pc + 1) lv st) : FJ X Y ad n S h pc lv (.ref (ad r) :: .int i :: .ref (ad k0) :: st) := by
  obtain ⟨⟨p, l, e, R⟩, ⟨s, m, args, below, meth, c⟩, ⟨cells, slots, Q⟩, ⟨nL', A⟩⟩ := X
  obtain ⟨G, cA⟩ := Y
  obtain ⟨hx, hb, hml, hown, hts, hK, hlk, hR, hce, hsl, hnl, hret, htr, hmc, hms, hA⟩ := C
  refine fun H locs ls hP hD hS hl => va_astqO (E := "ReplayBox$Held") (r := (Cn, T, nf)) hx hb hK hP hD hS k0 3 r ci (by rw [ph_at hk, hS0]; rfl) rfl (E.2.1 _ hca) (by rw [ph_at hr, hSr]; rfl) hcl hi hd (fun H1 locs1 hP1 hD1 hS1 => ?_)
  have e : (ph_w n cA ad S h).set k0 (ad k0, .inl (cA 3, len, .inr (.inr (.inr (.inr (va_up (fun j => (g j).map ad) i.toNatClampNeg (some (ad r)))))))) = ph_w n cA ad (va_up S k0 (.inr (.inr (3, len, va_up g i.toNatClampNeg (some r))))) h := ph_setS (by rw [show (some (ad r) : Option Nat) = (some r).map ad from rfl, up_map]; rfl)
  rw [e] at hP1 hD1
  exact kk H1 locs1 ls hP1 hD1 hS1 hl
theorem j_inst (C : FC X Y l0 cc nL own rm mc ms ret) {ix k0 ci nf : Nat} {rf : Nat → Option (Option Nat)} {Cn nm : String} {T : u_T} {v : Int32} (hd : decode cc pc = .ok (.instanceof ix, 3)) (hlink : Cond.classLink own ix nm ∈ TW) (hk : k0 < n) (hS0 : S k0 = .inr (.inl (ci, nf, rf))) (hcl : vwCl[ci]? = some (Cn, T, nf)) (hv : (v = 1 ∧ Cn = nm) ∨ (v = 0 ∧ FE X ∧ (Cn, nm) ∈ enN)) (kk : FJ X Y ad n S h (pc + 3) lv (.int v :: st)) : FJ X Y ad n S h pc lv (.ref (ad k0) :: st) := by
  obtain ⟨⟨p, l, e, R⟩, ⟨s, m, args, below, meth, c⟩, ⟨cells, slots, Q⟩, ⟨nL', A⟩⟩ := X
  obtain ⟨G, cA⟩ := Y
  obtain ⟨hx, hb, hml, hown, hts, hK, hlk, hR, hce, hsl, hnl, hret, htr, hmc, hms, hA⟩ := C
  intro H locs ls hP hD hS hl
  have hrc := va_recv hK hP hcl (q0 := k0) (a := ad k0) (fs := (List.range nf).map (ph_f ad rf (h k0))) (by rw [ph_at hk, hS0]; rfl)
  rcases hv with ⟨rfl, rfl⟩ | ⟨rfl, E, hn⟩
  · exact va_instS hx hb hown (hts _ hlink) (hK.1 ci _ hcl).2 hrc hd (kk H locs ls hP hD hS hl)
  · exact va_instNo hx hb hown (hts _ hlink) (E.2.2.2.1 _ hn) hrc hd (kk H locs ls hP hD hS hl)
theorem j_cast (C : FC X Y l0 cc nL own rm mc ms ret) {ix k0 ci nf : Nat} {rf : Nat → Option (Option Nat)} {nm : String} {T : u_T} (hd : decode cc pc = .ok (.checkcast ix, 3)) (hlink : Cond.classLink own ix nm ∈ TW) (hk : k0 < n) (hS0 : S k0 = .inr (.inl (ci, nf, rf))) (hcl : vwCl[ci]? = some (nm, T, nf)) (kk : FJ X Y ad n S h (pc + 3) lv (.ref (ad k0) :: st)) : FJ X Y ad n S h pc lv (.ref (ad k0) :: st) := by
  obtain ⟨⟨p, l, e, R⟩, ⟨s, m, args, below, meth, c⟩, ⟨cells, slots, Q⟩, ⟨nL', A⟩⟩ := X
  obtain ⟨G, cA⟩ := Y
  obtain ⟨hx, hb, hml, hown, hts, hK, hlk, hR, hce, hsl, hnl, hret, htr, hmc, hms, hA⟩ := C
  intro H locs ls hP hD hS hl
  have hrc := va_recv hK hP hcl (q0 := k0) (a := ad k0) (fs := (List.range nf).map (ph_f ad rf (h k0))) (by rw [ph_at hk, hS0]; rfl)
  exact va_castS hx hb hown (hts _ hlink) (hK.1 ci _ hcl).2 hrc hd (kk H locs ls hP hD hS hl)
/-- a piece of one byte row into another -/
theorem j_copyB (C : FC X Y l0 cc nL own rm mc ms ret) {ix k0 k1 n0 n1 : Nat} {sp dp m : Int32} (hd : decode cc pc = .ok (.invokestatic ix, 3)) (hlink : Cond.methodLink own ix arraycopyName ∈ TW) (hnat : Cond.native arraycopyName ∈ TW) (hst : Cond.static arraycopyName ∈ TW) (hini : Cond.initialized "java/lang/System" ∈ TW) (hk0 : k0 < n) (hS0 : S k0 = .inl (2, n0)) (hk1 : k1 < n) (hS1 : S k1 = .inl (2, n1)) (hby : ∀ i, fits .byte (.int (h k0 i)) = true) (q : cpok sp dp m n0 n1) (h0 : 1 ≤ rm.frames) (h1 : (st.map fun v => v.category).sum + (nativeFrameWords "java/lang/System" "arraycopy" 5 + 11) ≤ rm.locals) (k : FJ X Y ad n S (hc h k0 k1 sp dp m) (pc + 3) lv st) : FJ X Y ad n S h pc lv (.int m :: .int dp :: .ref (ad k1) :: .int sp :: .ref (ad k0) :: st) := by
  obtain ⟨⟨p, l, e, R⟩, ⟨s, m', args, below, meth, c⟩, ⟨cells, slots, Q⟩, ⟨nL', A⟩⟩ := X
  obtain ⟨G, cA⟩ := Y
  obtain ⟨hx, hb, hml, hown, hts, hK, hlk, hR, hce, hsl, hnl, hret, htr, hmc, hms, hA⟩ := C
  subst hR hce hsl hnl
  refine fun H locs ls hP hD hS hl => va_copyi (ty := .byte) hx hb (hml.trans hl.1.symm) hown (hts _ hlink) (hts _ hnat) (hts _ hst) (hts _ hini) hK hP hD hS k0 k1 2 2 (by rw [ph_at hk0, hS0]; rfl) (by rw [ph_at hk1, hS1]; rfl) rfl rfl rfl q.1 q.2.1 q.2.2.1 q.2.2.2.1 q.2.2.2.2 (fun _ _ => hby _) h0 h1 hd (fun H1 locs1 hP1 hD1 hS1' => ?_)
  have e : (ph_w n cA ad S h).set k1 (ad k1, .inl (cA 2, n1, .inl (va_cpy (h k0) (h k1) sp.toNatClampNeg dp.toNatClampNeg m.toNatClampNeg))) = ph_w n cA ad S (hc h k0 k1 sp dp m) := ph_seth (by rw [hS1]; rfl)
  rw [e] at hP1 hD1
  exact k H1 locs1 ls hP1 hD1 hS1' hl
end GROW
