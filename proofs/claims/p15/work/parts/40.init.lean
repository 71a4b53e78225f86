/-! CONSTRUCTORS: fields that are set one after another; rows stand behind what was there -/
/-- done: fields that refer, and whereto; todo: fields that are null -/
def rfL (done : List (Nat × Nat)) (todo : List Nat) : Nat → Option (Option Nat) := fun j => match done.lookup j with
  | some r => some (some r)
  | none => if todo.contains j then some none else none
theorem rfL_put {done : List (Nat × Nat)} {todo : List Nat} {j r : Nat} : va_up (rfL done (j :: todo)) j (some (some r)) = rfL ((j, r) :: done) todo := by
  funext i
  by_cases e : i = j
  · subst e
    rw [va_up_self]
    unfold rfL
    rw [List.lookup_cons_self]
  · rw [va_up_ne _ _ e]
    have h1 : (i == j) = false := by simpa using e
    unfold rfL
    rw [List.lookup_cons, h1, List.contains_cons, h1]
    rfl
theorem rfL_rz {todo : List Nat} : rz (rfL [] todo) = rfL [] todo := by
  funext j
  unfold rz rfL
  show Option.map (fun _ => none) (if todo.contains j then some none else none) = (if todo.contains j then some none else none)
  split <;> rfl
theorem rfL_cl {m ci nf j r : Nat} {done : List (Nat × Nat)} {todo : List Nat} (h : clE m (.inr (.inl (ci, nf, rfL done (j :: todo))))) (hr : r < m + 1) : clE (m + 1) (.inr (.inl (ci, nf, rfL ((j, r) :: done) todo))) := fun i q e => by
  rw [← rfL_put] at e
  by_cases z : i = j
  · subst z
    rw [va_up_self] at e
    cases e
    exact hr
  · rw [va_up_ne _ _ z] at e
    exact Nat.lt_succ_of_lt (h i q e)
theorem rfL_cl0 {m ci nf j r : Nat} {done : List (Nat × Nat)} {todo : List Nat} (h : clE m (.inr (.inl (ci, nf, rfL done (j :: todo))))) (hr : r < m) : clE m (.inr (.inl (ci, nf, rfL ((j, r) :: done) todo))) := fun i q e => by
  rw [← rfL_put] at e
  by_cases z : i = j
  · subst z
    rw [va_up_self] at e
    cases e
    exact hr
  · rw [va_up_ne _ _ z] at e
    exact h i q e
theorem rfL_null {m ci nf : Nat} {todo : List Nat} : clE m (.inr (.inl (ci, nf, rfL [] todo))) := fun i q e => by
  rw [← rfL_rz] at e
  exact (rz_cl e).elim
section INIT
variable {X : fj_X} {Y : fj_Y} {l0 : Launch} {cc : ByteArray} {nL : Nat} {own : String} {rm : Room} {mc ms : Nat} {ret : Option FieldType} {ad : Nat → Nat} {n : Nat} {S : ph_S} {h : ph_H} {pc : Nat} {lv : List (Nat × Value)} {stk st : List Value}
theorem j_ldc (C : FC X Y l0 cc nL own rm mc ms ret) {ix : Nat} {v : Int32} (hd : decode cc pc = .ok (.ldc ix, 2)) (hw : Cond.constant own ix v ∈ TW) (k : FJ X Y ad n S h (pc + 2) lv (.int v :: st)) : FJ X Y ad n S h pc lv st := by
  obtain ⟨⟨p, l, e, R⟩, ⟨s, m, args, below, meth, c⟩, ⟨cells, slots, Q⟩, ⟨nL', A⟩⟩ := X
  obtain ⟨G, cA⟩ := Y
  obtain ⟨hx, hb, hml, hown, hts, hK, hlk, hR, hce, hsl, hnl, hret, htr, hmc, hms, hA⟩ := C
  exact fun H locs ls hP hD hS hl => lv_ldc hx hb hown (hts _ hw) hd (k H locs ls hP hD hS hl)
/-- a row for a field -/
theorem j_nap (C : FC X Y l0 cc nL own rm mc ms ret) (hni : FN X "<init>") {at_ : ArrayType} {t N ix k0 ci nf j : Nat} {ty fty : FieldType} {z : Int32} {done : List (Nat × Nat)} {todo : List Nat} {Cn ref : String} {T : u_T} {ty0 : Nat → FieldType} (hd : decode cc pc = .ok (.newarray at_, 2)) (hd2 : decode cc (pc + 2) = .ok (.putfield ix, 3)) (hk : k0 < n) (hS0 : S k0 = .inr (.inl (ci, nf, rfL done (j :: todo)))) (hSn : S n = .inl (t, N)) (hhn : h n = fun _ => 0) (hcs : clS n S)
    (hty : newarray.typeOf at_ = ty) (harr : Cond.arrayClass ty ∈ TW) (ht : ∀ cA : Nat → ClassId, (tyl cA)[t]? = some (cA t, ty)) (hra : ∀ (U : State) (c : ClassId), va_RA U c ty → U.vm.findClass ("[" ++ ty.toString) = some c) (hdv : defaultValue ty = .int 0) (hz : (decide (¬ z < 0) && decide (z.toNatClampNeg = N) && decide (N * componentBytes ty ≤ 536870912)) = true) (h1 : mc + 1 ≤ rm.cells) (h2 : ms + N ≤ rm.slots)
    (hcl : vwCl[ci]? = some (Cn, T, nf)) (hin : ∀ w ∈ u_ws Cn T nf, w ∈ TW) (hty0 : ∀ k, k < nf → parseFieldDescriptor (T k).2.2.1 = some (ty0 k)) (hnm : ∀ a, a < nf → ∀ b, b < nf → a ≠ b → (T a).2.1 ≠ (T b).2.1) (hj : j < nf) (hlink : Cond.fieldLink own ix ref (T j).2.1 (T j).2.2.1 ∈ TW) (hsame : (T j).1 = ref) (hfin : (T j).2.2.2 = true) (hdecl : (T j).1 = own) (hpt : parseFieldDescriptor (T j).2.2.1 = some fty) (hnar : ∀ a : Nat, narrow fty (.ref a) = .ref a) (hfit : ∀ a : Nat, fits fty (.ref a) = true)
    (kk : ∀ ad' : Nat → Nat, (∀ k, k < n → ad' k = ad k) → clS (n + 1) (va_up S k0 (.inr (.inl (ci, nf, rfL ((j, n) :: done) todo)))) → FJ (xg X 1 N) Y ad' (n + 1) (va_up S k0 (.inr (.inl (ci, nf, rfL ((j, n) :: done) todo)))) h (pc + 5) lv st) : FJ X Y ad n S h pc lv (.int z :: .ref (ad k0) :: st) := by
  simp only [Bool.and_eq_true, decide_eq_true_eq] at hz
  refine j_newa (t := t) (N := N) C hd hty harr ht hra hdv hz.1.1 hz.1.2 hz.2 hcs h1 h2 (fun ad' hA => ?_)
  rw [va_up_id hSn, va_up_id hhn, ← hA k0 hk]
  have C1 := C.g h1 h2
  have cl0 := hcs k0 hk
  rw [hS0] at cl0
  refine j_putFr (j := j) C1 hni hd2 (Nat.lt_succ_of_lt hk) hS0 hcl hin hty0 hnm hj hlink hsame hfin hdecl hpt hnar hfit ?_
  rw [rfL_put]
  refine kk ad' hA (fun k hk' => ?_)
  by_cases e : k = k0
  · subst e
    rw [va_up_self]
    exact rfL_cl cl0 (Nat.lt_succ_self n)
  · rw [va_up_ne _ _ e]
    by_cases e2 : k = n
    · subst e2
      rw [hSn]
      trivial
    · exact (hcs k (by omega)).mono (Nat.le_succ n)
/-- new C(..): a place for it -/
theorem j_newS (C : FC X Y l0 cc nL own rm mc ms ret) {ix ci nf : Nat} {todo : List Nat} {Cn : String} {T : u_T} {ty0 : Nat → FieldType} (hd : decode cc pc = .ok (.new ix, 3)) (hcl : vwCl[ci]? = some (Cn, T, nf)) (hin : ∀ w ∈ u_ws Cn T nf, w ∈ TW) (hty : ∀ k, k < nf → parseFieldDescriptor (T k).2.2.1 = some (ty0 k)) (hlink : Cond.classLink own ix Cn ∈ TW) (hinst : Cond.instantiable Cn nf ∈ TW) (hini : Cond.initialized Cn ∈ TW) (hdv : dvOk ty0 (rfL [] todo) nf = true) (hhn : h n = fun _ => 0) (hcs : clS n S) (h1 : mc + 1 ≤ rm.cells) (h2 : ms + nf ≤ rm.slots)
    (kk : ∀ ad' : Nat → Nat, (∀ k, k < n → ad' k = ad k) → clS (n + 1) (va_up S n (.inr (.inl (ci, nf, rfL [] todo)))) → FJ (xg X 1 nf) Y ad' (n + 1) (va_up S n (.inr (.inl (ci, nf, rfL [] todo)))) h (pc + 3) lv (.ref (ad' n) :: st)) : FJ X Y ad n S h pc lv st := by
  refine j_new (rf := rfL [] todo) C hd hcl hin hty hlink hinst hini hdv hcs h1 h2 (fun ad' hA => ?_)
  rw [rfL_rz, va_up_id hhn]
  exact kk ad' hA (hcs.push rfL_null)
/-- a row of references, all null -/
theorem j_newq (C : FC X Y l0 cc nL own rm mc ms ret) (E : FE X) {ix N : Nat} {z : Int32} (hd : decode cc pc = .ok (.anewarray ix, 3)) (hlink : Cond.classLink own ix "ReplayBox$Held" ∈ TW) (hz : (decide (¬ z < 0) && decide (z.toNatClampNeg = N) && decide (N * 4 ≤ 536870912)) = true) (hcs : clS n S) (hSn : S n = .inr (.inr (3, N, fun _ => none))) (hhn : h n = fun _ => 0) (h1 : mc + 1 ≤ rm.cells) (h2 : ms + N ≤ rm.slots)
    (kk : ∀ ad' : Nat → Nat, (∀ k, k < n → ad' k = ad k) → FJ (xg X 1 N) Y ad' (n + 1) S h (pc + 3) lv (.ref (ad' n) :: st)) : FJ X Y ad n S h pc lv (.int z :: st) := by
  simp only [Bool.and_eq_true, decide_eq_true_eq] at hz
  obtain ⟨⟨p, l, e, R⟩, ⟨s, m, args, below, meth, c⟩, ⟨cells, slots, Q⟩, ⟨nL', A⟩⟩ := X
  obtain ⟨G, cA⟩ := Y
  obtain ⟨hx, hb, hml, hown, hts, hK, hlk, hR, hce, hsl, hnl, hret, htr, hmc, hms, hA⟩ := C
  subst hR hce hsl
  intro H locs ls hP hD hS hl
  refine va_newq (D := G) hx hb hown (hts _ hlink) E.2.2.2.2.2.1 hK hP hD hS hA hz.1.1 hz.1.2 hz.2 h1 h2 hd (fun q c1 H1 hK1 hP1 hD1 hS1 => ?_)
  have e1 : c1 = cA 3 := by
    obtain ⟨_, _, _, _, _, a1⟩ := (hK1.2 5 (c1, .object "ReplayBox$Held") rfl).2
    obtain ⟨_, _, _, _, _, a2⟩ := (hK.2 3 (cA 3, .object "ReplayBox$Held") rfl).2
    exact Option.some.inj (a1.symm.trans a2)
  subst e1
  have hAd : ∀ k, k < n → va_up ad n q k = ad k := fun k hk => va_up_ne _ _ (by omega)
  have ew : ph_w (n + 1) cA (va_up ad n q) (va_up S n (.inr (.inr (3, N, fun _ => none)))) (va_up h n (fun _ => 0)) = ph_w n cA ad S h ++ [(q, .inl (cA 3, N, .inr (.inr (.inr (.inr (fun _ => none))))))] := by
    rw [ph_w_push hcs hAd, va_up_self]
    rfl
  rw [va_up_id hSn, va_up_id hhn] at ew
  have k := kk (va_up ad n q) hAd H1 locs ls (by rw [ew]; exact hP1) (by rw [ew]; exact hD1) hS1 hl
  rw [va_up_self] at k
  exact k
/-- new int[2][N] -/
theorem j_mna (C : FC X Y l0 cc nL own rm mc ms ret) (E : FE X) {ix N : Nat} {z : Int32} (hd : decode cc pc = .ok (.multianewarray ix 2, 4)) (hlink : Cond.classLink own ix "[[I" ∈ TW) (harr : Cond.arrayClass .int ∈ TW) (hz : (decide (¬ z < 0) && decide (z.toNatClampNeg = N) && decide (N * 4 ≤ 536870912)) = true) (hcs : clS n S) (hSn : S n = .inr (.inr (4, 2, fun i => if i < 2 then some (n + 1 + i) else none))) (hS1 : S (n + 1) = .inl (0, N)) (hS2 : S (n + 2) = .inl (0, N)) (hh0 : h n = fun _ => 0) (hh1 : h (n + 1) = fun _ => 0) (hh2 : h (n + 2) = fun _ => 0) (h1 : mc + 3 ≤ rm.cells) (h2 : ms + (2 + 2 * N) ≤ rm.slots)
    (kk : ∀ ad' : Nat → Nat, (∀ k, k < n → ad' k = ad k) → clS (n + 1 + 1 + 1) S → FJ (xg X 3 (2 + 2 * N)) Y ad' (n + 1 + 1 + 1) S h (pc + 4) lv (.ref (ad' n) :: st)) : FJ X Y ad n S h pc lv (.int z :: .int 2 :: st) := by
  simp only [Bool.and_eq_true, decide_eq_true_eq] at hz
  obtain ⟨⟨p, l, e, R⟩, ⟨s, m, args, below, meth, c⟩, ⟨cells, slots, Q⟩, ⟨nL', A⟩⟩ := X
  obtain ⟨G, cA⟩ := Y
  obtain ⟨hx, hb, hml, hown, hts, hK, hlk, hR, hce, hsl, hnl, hret, htr, hmc, hms, hA⟩ := C
  subst hR hce hsl
  intro H locs ls hP hD hS hl
  have s1 : "[" ++ (FieldType.array .int).toString = "[[I" := by decide +kernel
  have s2 : (FieldType.array .int).toString = "[" ++ FieldType.int.toString := by decide +kernel
  refine va_mna (D := G) (X := ph_w n cA ad S h) (L := []) (f := fun _ => .inr (0, [])) (ty := .int) (cy := cA 0) (n := 2) (k := z) (N' := 2) (K' := N) (z := (N, .inl (fun _ => 0))) hx hb hown (by rw [s1]; exact hts _ hlink) (show (Cond.arrayOver (.array .int)).before args s = true from E.2.2.2.2.2.2.1) (hts _ harr) (by rw [s2]; exact (hK.2 0 _ rfl).2) hK (by rw [show va_pl [] (fun _ => (Sum.inr (0, []) : va_E)) = [] from rfl, List.append_nil]; exact hP) (by rw [show va_pl [] (fun _ => (Sum.inr (0, []) : va_E)) = [] from rfl, List.append_nil]; exact hD) hS hA (by decide) hz.1.1 (by decide) hz.1.2 (by decide) hz.2 (by omega) rfl rfl (by omega) (by omega) (fun c1 => ?_) hd (fun q r c1 H1 hr hrl hK1 hP1 hD1 hS1' => ?_)
  · rw [vp_cell_i]
    exact (arrV_new ..)
  · have e1 : c1 = cA 4 := by
      have a1 : s.vm.findClass _ = some c1 := (hK1.2 5 (c1, .array .int) rfl).2
      have a2 : s.vm.findClass _ = some (cA 4) := (hK.2 4 (cA 4, .array .int) rfl).2
      exact Option.some.inj (a1.symm.trans a2)
    subst e1
    obtain ⟨ad', ea⟩ : ∃ ad' : Nat → Nat, ad' = va_up (va_up (va_up ad n q) (n + 1) (r 0)) (n + 2) (r 1) := ⟨_, rfl⟩
    have a0 : ad' n = q := by rw [ea, va_up_ne _ _ (by omega), va_up_ne _ _ (by omega), va_up_self]
    have a1 : ad' (n + 1) = r 0 := by rw [ea, va_up_ne _ _ (by omega), va_up_self]
    have a2 : ad' (n + 2) = r 1 := by rw [ea, va_up_self]
    have hAd : ∀ k, k < n → ad' k = ad k := fun k hk => by rw [ea, va_up_ne _ _ (by omega), va_up_ne _ _ (by omega), va_up_ne _ _ (by omega)]
    have hcs3 : clS (n + 1 + 1 + 1) S := fun k hk => by
      by_cases c0 : k < n
      · exact (hcs k c0).mono (by omega)
      · by_cases c1 : k = n
        · subst c1
          rw [hSn]
          intro i r e
          have e : (if i < 2 then some (k + 1 + i) else none) = some r := e
          split at e
          · cases e
            omega
          · cases e
        · by_cases c2 : k = n + 1
          · subst c2
            rw [hS1]
            trivial
          · have c3 : k = n + 2 := by omega
            subst c3
            rw [hS2]
            trivial
    have ew : ph_w (n + 1 + 1 + 1) cA ad' S h = (ph_w n cA ad S h ++ [(q, .inl (cA 4, 2, .inr (.inr (.inr (.inr (fun i => if i < 2 then some (r i) else none))))))]) ++ va_pl ([] ++ (List.range 2).map r) (vr_up (fun _ => .inr (0, [])) ((List.range 2).map r) (.inl (cA 0, N, .inl (fun _ => 0)))) := by
      have step : ∀ m, ph_w (m + 1) cA ad' S h = ph_w m cA ad' S h ++ [(ad' m, ph_e cA ad' (S m) (h m))] := fun m => by
        unfold ph_w
        rw [List.range_succ, List.map_append]
        rfl
      have base : ph_w n cA ad' S h = ph_w n cA ad S h := by
        unfold ph_w
        refine List.map_congr_left (fun k hk => ?_)
        rw [hAd k (List.mem_range.mp hk), ph_e_ad (hcs k (List.mem_range.mp hk)) hAd]
      have t0 : ph_e cA ad' (S n) (h n) = .inl (cA 4, 2, .inr (.inr (.inr (.inr (fun i => if i < 2 then some (r i) else none))))) := by
        rw [hSn]
        show Sum.inl (cA 4, 2, _) = Sum.inl (cA 4, 2, _)
        congr 7
        funext i
        show Option.map ad' (if i < 2 then some (n + 1 + i) else none) = if i < 2 then some (r i) else none
        by_cases c0 : i < 2
        · rw [if_pos c0, if_pos c0]
          have : i = 0 ∨ i = 1 := by omega
          rcases this with e | e
          · subst e
            exact congrArg some a1
          · subst e
            exact congrArg some a2
        · rw [if_neg c0, if_neg c0]
          rfl
      have t1 : ph_e cA ad' (S (n + 1)) (h (n + 1)) = .inl (cA 0, N, .inl (fun _ => 0)) := by rw [hS1, hh1]; rfl
      have t2 : ph_e cA ad' (S (n + 2)) (h (n + 2)) = .inl (cA 0, N, .inl (fun _ => 0)) := by rw [hS2, hh2]; rfl
      have v0 : vr_up (fun _ => (.inr (0, []) : va_E)) [r 0, r 1] (.inl (cA 0, N, .inl (fun _ => 0))) (r 0) = .inl (cA 0, N, .inl (fun _ => 0)) := vr_up_in (List.mem_cons_self)
      have v1 : vr_up (fun _ => (.inr (0, []) : va_E)) [r 0, r 1] (.inl (cA 0, N, .inl (fun _ => 0))) (r 1) = .inl (cA 0, N, .inl (fun _ => 0)) := vr_up_in (List.mem_cons_of_mem _ (List.mem_cons_self))
      have el : va_pl ([] ++ (List.range 2).map r) (vr_up (fun _ => (.inr (0, []) : va_E)) ((List.range 2).map r) (.inl (cA 0, N, .inl (fun _ => 0)))) = [(r 0, .inl (cA 0, N, .inl (fun _ => 0))), (r 1, .inl (cA 0, N, .inl (fun _ => 0)))] := by
        show [(r 0, vr_up _ [r 0, r 1] _ (r 0)), (r 1, vr_up _ [r 0, r 1] _ (r 1))] = _
        rw [v0, v1]
      rw [el, step, step, step, base, t0, t1, t2, a0, a1, a2]
      simp only [List.append_assoc, List.cons_append, List.nil_append]
    have k := kk ad' hAd hcs3 H1 locs ls (by rw [ew]; exact hP1) (by rw [ew]; exact hD1) hS1' hl
    rw [a0] at k
    have eq1 : slots + 2 + 2 * N = slots + (2 + 2 * N) := by omega
    rw [eq1]
    exact k
end INIT
